/-! the reference's call kind -/
theorem mmr (a b : Int) : a * (b % 10007) % 10007 = a * b % 10007 := by
  rw [Int.mul_comm, mml, Int.mul_comm]
theorem pw_neg (v : Int) : ∀ n, pw (-v % 10007) n = (if n % 2 = 0 then pw v n else -(pw v n)) % 10007
  | 0 => by simp [pw]
  | n + 1 => by
    rw [pw, pw_neg v n, mml, mmr, pw]
    by_cases e : n % 2 = 0
    · rw [if_pos e, if_neg (by omega), Int.mul_neg]; omega
    · rw [if_neg e, if_pos (by omega), Int.neg_mul_neg]; omega
theorem M_log (v : Int) (n : Nat) (hn : n ≠ 0) : (if n % 2 = 1 then 1 else -1) * pw v n * pw (n : Int) 10005 % 10007 = logS v n := by
  unfold logS
  rw [if_neg hn, pw_neg]
  have h1 : ∀ x : Int, -x % 10007 = -(x % 10007) % 10007 := fun x => by omega
  by_cases e : n % 2 = 0
  · rw [if_neg (by omega), if_pos e, h1, mml, ← h1, Int.neg_mul, Int.one_mul, Int.neg_mul]
  · rw [if_pos (by omega), if_neg e, h1, mml, ← h1, Int.neg_mul, Int.neg_neg, Int.one_mul]
theorem expS_in (v : Int) (n : Nat) : 0 ≤ expS v n ∧ expS v n < 10007 := by unfold expS; omega
set_option maxRecDepth 100000 in
theorem m_kind {A : Nat → Nat → Int} {σ : St} (hM : MI A σ) (s kd v : Int) (hs : inR s) (hk : inR kd) (hvv : inR v) : OkI mX6_kind [.ref 156, .int (iI s), .int (iI kd), .int (iI v)] 172 (mA A) (.int (iI (opKind σ s kd v).1)) (MP A (opKind σ s kd v).2) := by
  generalize hop : opKind σ s kd v = R
  refine OkM.of [some (.ref 156), some (.int (iI s)), some (.int (iI kd)), some (.int (iI v)), none, none, none, none, none] (by decide +kernel) rfl (Nat.le_of_ble_eq_true rfl) ?_
  intro X E F
  have hbad : ¬ (iS s ∧ (0 ≤ kd ∧ kd < 8) ∧ (0 ≤ v ∧ v < 10007)) → Zc X 28 [some (.ref 156), some (.int (iI s)), some (.int (iI kd)), some (.int (iI v)), none, none, none, none, none] [] 172 (mA A) 0 0 := by
    intro hv
    refine z_bipush E (by decide) dX6_kind_28 ?_
    exact z_iret E F dX6_kind_30 (fin hop (if_neg hv) (mp_same hM))
  refine z_iload_n E dX6_kind_0 rfl ?_
  refine c_S E dX6_kind_1 lkX6_74 (ok_isSheet6 s hs 172 _) rfl rfl rfl (Nat.le_of_ble_eq_true rfl) ⟨(Nat.le_of_ble_eq_true rfl), (Nat.le_of_ble_eq_true rfl)⟩ ⟨rfl, rfl⟩ ⟨Nat.zero_le _, Nat.zero_le _⟩ ?_
  refine z_bif_eq (tgt := 28) E dX6_kind_4 (by decide) (fun h4 => hbad (fun v => h4 v.1)) (fun h4 => ?_)
  refine z_iload_n E dX6_kind_7 rfl ?_
  refine z_iconst E dX6_kind_8 ?_
  refine z_bipush E (by decide) dX6_kind_9 ?_
  refine c_S E dX6_kind_11 lkX6_70 (ok_inB kd 0 7 (0 ≤ kd ∧ kd < 8) (by omega) hk (by omega) (by omega) 172 _) rfl rfl rfl (Nat.le_of_ble_eq_true rfl) ⟨(Nat.le_of_ble_eq_true rfl), (Nat.le_of_ble_eq_true rfl)⟩ ⟨rfl, rfl⟩ ⟨Nat.zero_le _, Nat.zero_le _⟩ ?_
  refine z_bif_eq (tgt := 28) E dX6_kind_14 (by decide) (fun h14 => hbad (fun v => h14 v.2.1)) (fun h14 => ?_)
  refine z_iload_n E dX6_kind_17 rfl ?_
  refine z_iconst E dX6_kind_18 ?_
  refine z_sipush E (by decide) dX6_kind_19 ?_
  refine c_S E dX6_kind_22 lkX6_70 (ok_inB v 0 10006 (0 ≤ v ∧ v < 10007) (by omega) hvv (by omega) (by omega) 172 _) rfl rfl rfl (Nat.le_of_ble_eq_true rfl) ⟨(Nat.le_of_ble_eq_true rfl), (Nat.le_of_ble_eq_true rfl)⟩ ⟨rfl, rfl⟩ ⟨Nat.zero_le _, Nat.zero_le _⟩ ?_
  refine z_bif_ne (tgt := 31) E dX6_kind_25 (by decide) (fun h25 => ?_) (fun h25 => hbad (fun v => h25 v.2.2))
  have hv : iS s ∧ (0 ≤ kd ∧ kd < 8) ∧ (0 ≤ v ∧ v < 10007) := ⟨h4, h14, h25⟩
  obtain ⟨⟨s, rfl⟩, ⟨kd, rfl⟩⟩ := And.intro (nat_of h4.1) (nat_of h14.1)
  have hs8 : s < 8 := by omega
  have i4 : ∀ n, 0 ≤ expS v n ∧ expS v n < 10007 := expS_in v
  refine z_iconst E dX6_kind_31 ?_
  refine z_istore (ls' := [_, _, _, _, _, _, _, _, _]) E dX6_kind_32 (Nat.le_of_ble_eq_true rfl) rfl ?_
  have rk : rok (kS kd v) := by
    rcases (show kd = 0 ∨ kd = 1 ∨ kd = 2 ∨ kd = 3 ∨ kd = 4 ∨ kd = 5 ∨ kd = 6 ∨ kd = 7 by omega) with rfl | rfl | rfl | rfl | rfl | rfl | rfl | rfl
    · exact up_rok (conS_rok (by omega)) (by omega)
    · exact fun j _ => expS_in v j
    · exact up_rok (fun j _ => expS_in v j) (by omega)
    · exact fun j _ => pw_in v j
    · exact fun j hj => by
        show 0 ≤ shu (expS v) j ∧ shu (expS v) j < 10007
        unfold shu
        split
        · omega
        · exact expS_in _ _
    · exact fun j hj => by
        show 0 ≤ logS v j ∧ logS v j < 10007
        unfold logS; split <;> omega
    · exact fun j hj => by
        show 0 ≤ shu (pw (-v % 10007)) j ∧ shu (pw (-v % 10007)) j < 10007
        unfold shu
        split
        · omega
        · exact pw_in _ _
    · exact conS_rok (by omega)
  have loop : ∀ (m n : Nat), n + m = 10 → ∀ (l5 l6 l7 l8 : Option Value) (A' : Nat → Nat → Int), A' = va_up A 166 (fun j => if j < n then kS kd v j else A 166 j) → Zc X 34 [some (.ref 156), some (.int (iI (s : Int))), some (.int (iI (kd : Int))), some (.int (iI v)), some (.int (iI (n : Int))), l5, l6, l7, l8] [] 172 (mA A') 0 0 := by
    intro m
    induction m with
    | zero =>
      intro n hn l5 l6 l7 l8 A' hA
      refine z_mem (g' := mA (va_up A 166 (kS kd v))) (by rw [hA]; exact row_eq (cel_ten t166) (fun j hj => if_pos (by omega))) ?_
      refine z_iload E dX6_kind_34 rfl ?_
      refine z_bipush E (by decide) dX6_kind_36 ?_
      refine z_icmp_ge (tgt := 281) E (by omega) (by omega) dX6_kind_38 (by decide) (fun h38 => ?_) (fun h38 => ?_)
      · refine z_aload_n E dX6_kind_281 rfl ?_
        refine z_aload_n E dX6_kind_282 rfl ?_
        refine z_get E dX6_kind_283 (by rfl) flX6_38 (by rfl) ?_
        refine z_iload_n E dX6_kind_286 rfl ?_
        refine c_VQ E dX6_kind_287 lkX6_114 (ok_tells (A := va_up A 166 (kS kd v)) (hM.ups (by omega)) t166 hs8 (kS kd v) (va_up_self _ _ _) rk 172) (by rfl) rfl rfl rfl (Nat.le_of_ble_eq_true rfl) ⟨(Nat.le_of_ble_eq_true rfl), (Nat.le_of_ble_eq_true rfl)⟩ ⟨rfl, rfl⟩ ⟨Nat.zero_le _, Nat.zero_le _⟩ (fun g1 hg1 => ?_)
        obtain ⟨A3, rfl, m3, l3, _⟩ := hg1
        exact z_iret E F dX6_kind_290 (fin hop (if_pos hv) (mp_to m3 (lo_tr (lo_up (by omega)) l3)))
      · omega
    | succ m ih =>
      intro n hn l5 l6 l7 l8 A' hA
      have w1 := pw_in v n
      have key : ∀ (l5 l6 l7 l8 : Option Value) (w : Int), w = kS kd v n → Zc X 274 [some (.ref 156), some (.int (iI (s : Int))), some (.int (iI (kd : Int))), some (.int (iI v)), some (.int (iI (n : Int))), l5, l6, l7, l8] [.int (iI w), .int (iI (n : Int)), .ref 166] 172 (mA A') 0 0 := by
        intro l5 l6 l7 l8 w hw
        refine a_iast (j := n) E dX6_kind_274 (cel_ten t166) (by omega) (by omega) (by omega) ?_
        refine z_iinc (ls' := [_, _, _, _, _, _, _, _, _]) E dX6_kind_275 rfl rfl ?_
        refine z_goto (tgt := 34) E dX6_kind_278 (by decide) ?_
        rw [ei]
        refine ih (n + 1) (by omega) _ _ _ _ _ ?_
        rw [hA, va_uu, va_up_self, hw]
        refine congrArg (va_up A 166) (funext fun j => ?_)
        by_cases e1 : j = n
        · subst e1; rw [up_eq, if_pos (by omega)]
        · rw [up_ne _ _ e1]
          by_cases e4 : j < n
          · rw [if_pos e4, if_pos (show j < n + 1 by omega)]
          · rw [if_neg e4, if_neg (show ¬ j < n + 1 by omega)]
      have sel : Zc X 166 [some (.ref 156), some (.int (iI (s : Int))), some (.int (iI (kd : Int))), some (.int (iI v)), some (.int (iI (n : Int))), some (.int (iI (expS v n))), some (.int (iI (shu (expS v) n))), some (.int (iI (logS v n))), some (.int (iI (shu (pw (-v % 10007)) n)))] [] 172 (mA A') 0 0 := by
        refine z_aload_n E dX6_kind_166 rfl ?_
        refine z_get E dX6_kind_167 (by rfl) flX6_38 (by rfl) ?_
        refine z_iload E dX6_kind_170 rfl ?_
        refine z_iload_n E dX6_kind_172 rfl ?_
        refine z_if_ne (tgt := 190) E (by omega) dX6_kind_173 (by decide) (fun h173 => ?_) (fun h173 => ?_)
        · refine z_iload_n E dX6_kind_190 rfl ?_
          refine z_iconst E dX6_kind_191 ?_
          refine z_icmp_ne (tgt := 200) E (by omega) (by omega) dX6_kind_192 (by decide) (fun h192 => ?_) (fun h192 => ?_)
          · refine z_iload_n E dX6_kind_200 rfl ?_
            refine z_iconst E dX6_kind_201 ?_
            refine z_icmp_ne (tgt := 219) E (by omega) (by omega) dX6_kind_202 (by decide) (fun h202 => ?_) (fun h202 => ?_)
            · refine z_iload_n E dX6_kind_219 rfl ?_
              refine z_iconst E dX6_kind_220 ?_
              refine z_icmp_ne (tgt := 233) E (by omega) (by omega) dX6_kind_221 (by decide) (fun h221 => ?_) (fun h221 => ?_)
              · refine z_iload_n E dX6_kind_233 rfl ?_
                refine z_iconst E dX6_kind_234 ?_
                refine z_icmp_ne (tgt := 243) E (by omega) (by omega) dX6_kind_235 (by decide) (fun h235 => ?_) (fun h235 => ?_)
                · refine z_iload_n E dX6_kind_243 rfl ?_
                  refine z_iconst E dX6_kind_244 ?_
                  refine z_icmp_ne (tgt := 253) E (by omega) (by omega) dX6_kind_245 (by decide) (fun h245 => ?_) (fun h245 => ?_)
                  · refine z_iload_n E dX6_kind_253 rfl ?_
                    refine z_bipush E (by decide) dX6_kind_254 ?_
                    refine z_icmp_ne (tgt := 264) E (by omega) (by omega) dX6_kind_256 (by decide) (fun h256 => ?_) (fun h256 => ?_)
                    · have hk7 : kd = 7 := by omega
                      subst hk7
                      refine z_iload E dX6_kind_264 rfl ?_
                      refine z_if_ne (tgt := 273) E (by omega) dX6_kind_266 (by decide) (fun h266 => ?_) (fun h266 => ?_)
                      · refine z_iconst E dX6_kind_273 ?_
                        exact key _ _ _ _ _ (by show _ = conS v n; unfold conS; rw [up_ne _ _ (by omega)])
                      · refine z_iload_n E dX6_kind_269 rfl ?_
                        refine z_goto (tgt := 274) E dX6_kind_270 (by decide) ?_
                        exact key _ _ _ _ _ (by show _ = conS v n; unfold conS; rw [show n = 0 by omega, up_eq])
                    · have hk6 : kd = 6 := by omega
                      subst hk6
                      refine z_iload E dX6_kind_259 rfl ?_
                      refine z_goto (tgt := 274) E dX6_kind_261 (by decide) ?_
                      exact key _ _ _ _ _ rfl
                  · have hk5 : kd = 5 := by omega
                    subst hk5
                    refine z_iload E dX6_kind_248 rfl ?_
                    refine z_goto (tgt := 274) E dX6_kind_250 (by decide) ?_
                    exact key _ _ _ _ _ rfl
                · have hk4 : kd = 4 := by omega
                  subst hk4
                  refine z_iload E dX6_kind_238 rfl ?_
                  refine z_goto (tgt := 274) E dX6_kind_240 (by decide) ?_
                  exact key _ _ _ _ _ rfl
              · have hk3 : kd = 3 := by omega
                subst hk3
                refine z_iload_n E dX6_kind_224 rfl ?_
                refine z_iload E dX6_kind_225 rfl ?_
                refine c_S E dX6_kind_227 lkX6_58 (ok_toThe v (by omega) n (by omega) 172 _) rfl rfl rfl (Nat.le_of_ble_eq_true rfl) ⟨(Nat.le_of_ble_eq_true rfl), (Nat.le_of_ble_eq_true rfl)⟩ ⟨rfl, rfl⟩ ⟨Nat.zero_le _, Nat.zero_le _⟩ ?_
                refine z_goto (tgt := 274) E dX6_kind_230 (by decide) ?_
                exact key _ _ _ _ _ rfl
            · have hk2 : kd = 2 := by omega
              subst hk2
              refine z_iload E dX6_kind_205 rfl ?_
              refine z_if_ne (tgt := 214) E (by omega) dX6_kind_207 (by decide) (fun h207 => ?_) (fun h207 => ?_)
              · refine z_iload E dX6_kind_214 rfl ?_
                refine z_goto (tgt := 274) E dX6_kind_216 (by decide) ?_
                exact key _ _ _ _ _ (by show _ = up (expS v) 0 0 n; rw [up_ne _ _ (by omega)])
              · refine z_iconst E dX6_kind_210 ?_
                refine z_goto (tgt := 274) E dX6_kind_211 (by decide) ?_
                exact key _ _ _ _ _ (by show _ = up (expS v) 0 0 n; rw [show n = 0 by omega, up_eq])
          · have hk1 : kd = 1 := by omega
            subst hk1
            refine z_iload E dX6_kind_195 rfl ?_
            refine z_goto (tgt := 274) E dX6_kind_197 (by decide) ?_
            exact key _ _ _ _ _ rfl
        · have hk0 : kd = 0 := by omega
          subst hk0
          refine z_iload E dX6_kind_176 rfl ?_
          refine z_iconst E dX6_kind_178 ?_
          refine z_icmp_ne (tgt := 186) E (by omega) (by omega) dX6_kind_179 (by decide) (fun h179 => ?_) (fun h179 => ?_)
          · refine z_iconst E dX6_kind_186 ?_
            refine z_goto (tgt := 274) E dX6_kind_187 (by decide) ?_
            refine key _ _ _ _ _ ?_
            show _ = up (conS 0) 1 1 n
            rw [up_ne _ _ (by omega)]
            unfold conS
            by_cases e : n = 0
            · subst e; rw [up_eq]
            · rw [up_ne _ _ e]
          · refine z_iconst E dX6_kind_182 ?_
            refine z_goto (tgt := 274) E dX6_kind_183 (by decide) ?_
            refine key _ _ _ _ _ ?_
            show _ = up (conS 0) 1 1 n
            rw [show n = 1 by omega, up_eq]
      have e1 : ∀ q, q < 10 → pw v q * pw (fcl q) 10005 % 10007 = expS v q := fun q hq => by rw [M_if hq]; rfl
      have p1 : ∀ q, 0 ≤ pw v q * pw (fcl q) 10005 ∧ pw v q * pw (fcl q) 10005 ≤ 100120036 := fun q => mul_in (pw_in _ _) (pw_in _ _)
      have f1 := fcl_in n
      have f2 := fcl_in (n - 1)
      have pq := p1 n
      have pq2 := p1 (n - 1)
      have g1 := pw_in (fcl n) 10005
      have g2 := pw_in (fcl (n - 1)) 10005
      have g3 := pw_in v (n - 1)
      refine z_iload E dX6_kind_34 rfl ?_
      refine z_bipush E (by decide) dX6_kind_36 ?_
      refine z_icmp_ge (tgt := 281) E (by omega) (by omega) dX6_kind_38 (by decide) (fun h38 => ?_) (fun h38 => ?_)
      · omega
      · refine z_iload_n E dX6_kind_41 rfl ?_
        refine z_iload E dX6_kind_42 rfl ?_
        refine c_S E dX6_kind_44 lkX6_58 (ok_toThe v (by omega) n (by omega) 172 _) rfl rfl rfl (Nat.le_of_ble_eq_true rfl) ⟨(Nat.le_of_ble_eq_true rfl), (Nat.le_of_ble_eq_true rfl)⟩ ⟨rfl, rfl⟩ ⟨Nat.zero_le _, Nat.zero_le _⟩ ?_
        refine z_i2l E (by omega) dX6_kind_47 ?_
        refine z_iload E dX6_kind_48 rfl ?_
        refine c_S E dX6_kind_50 lkX6_109 (ok_factorial n (by omega) 172 _) rfl rfl rfl (Nat.le_of_ble_eq_true rfl) ⟨(Nat.le_of_ble_eq_true rfl), (Nat.le_of_ble_eq_true rfl)⟩ ⟨rfl, rfl⟩ ⟨Nat.zero_le _, Nat.zero_le _⟩ ?_
        refine c_S E dX6_kind_53 lkX6_87 (ok_turnedNumber _ (by omega) 172 _) rfl rfl rfl (Nat.le_of_ble_eq_true rfl) ⟨(Nat.le_of_ble_eq_true rfl), (Nat.le_of_ble_eq_true rfl)⟩ ⟨rfl, rfl⟩ ⟨Nat.zero_le _, Nat.zero_le _⟩ ?_
        refine z_i2l E (by omega) dX6_kind_56 ?_
        refine z_lmul E dX6_kind_57 ?_
        refine c_S E dX6_kind_58 lkX6_62 (ok_mod _ ⟨by omega, by omega⟩ (by omega) 172 _) rfl rfl rfl (Nat.le_of_ble_eq_true rfl) ⟨(Nat.le_of_ble_eq_true rfl), (Nat.le_of_ble_eq_true rfl)⟩ ⟨rfl, rfl⟩ ⟨Nat.zero_le _, Nat.zero_le _⟩ ?_
        rw [e1 n (by omega)]
        by_cases hn0 : n = 0
        · subst hn0
          refine z_istore (ls' := [_, _, _, _, _, _, _, _, _]) E dX6_kind_61 (Nat.le_of_ble_eq_true rfl) rfl ?_
          refine z_iload E dX6_kind_63 rfl ?_
          refine z_if_ne (tgt := 72) E (by omega) dX6_kind_65 (by decide) (fun hq => False.elim (by omega)) (fun h65 => ?_)
          refine z_iconst E dX6_kind_68 ?_
          refine z_goto (tgt := 96) E dX6_kind_69 (by decide) ?_
          refine z_istore (ls' := [_, _, _, _, _, _, _, _, _]) E dX6_kind_96 (Nat.le_of_ble_eq_true rfl) rfl ?_
          refine z_iload E dX6_kind_98 rfl ?_
          refine z_if_ne (tgt := 107) E (by omega) dX6_kind_100 (by decide) (fun hq => False.elim (by omega)) (fun h100 => ?_)
          refine z_iconst E dX6_kind_103 ?_
          refine z_goto (tgt := 140) E dX6_kind_104 (by decide) ?_
          refine z_istore (ls' := [_, _, _, _, _, _, _, _, _]) E dX6_kind_140 (Nat.le_of_ble_eq_true rfl) rfl ?_
          refine z_iload E dX6_kind_142 rfl ?_
          refine z_if_ne (tgt := 151) E (by omega) dX6_kind_144 (by decide) (fun hq => False.elim (by omega)) (fun h144 => ?_)
          refine z_iconst E dX6_kind_147 ?_
          refine z_goto (tgt := 164) E dX6_kind_148 (by decide) ?_
          refine z_istore (ls' := [_, _, _, _, _, _, _, _, _]) E dX6_kind_164 (Nat.le_of_ble_eq_true rfl) rfl ?_
          exact sel
        · have s6 : shu (expS v) n = expS v (n - 1) := by unfold shu; rw [if_neg hn0]
          have s8 : shu (pw (-v % 10007)) n = pw (-v % 10007) (n - 1) := by unfold shu; rw [if_neg hn0]
          have s7 := M_log v n hn0
          rw [s6, s8, ← s7] at sel
          have g4 := pw_in (n : Int) 10005
          have g5 := mul_in w1 g4
          refine z_istore (ls' := [_, _, _, _, _, _, _, _, _]) E dX6_kind_61 (Nat.le_of_ble_eq_true rfl) rfl ?_
          refine z_iload E dX6_kind_63 rfl ?_
          refine z_if_ne (tgt := 72) E (by omega) dX6_kind_65 (by decide) (fun h65 => ?_) (fun hq => False.elim (by omega))
          refine z_iload_n E dX6_kind_72 rfl ?_
          refine z_iload E dX6_kind_73 rfl ?_
          refine z_iconst E dX6_kind_75 ?_
          refine z_isub E dX6_kind_76 ?_
          rw [show (n : Int) - 1 = ((n - 1 : Nat) : Int) by omega]
          refine c_S E dX6_kind_77 lkX6_58 (ok_toThe v (by omega) (n - 1) (by omega) 172 _) rfl rfl rfl (Nat.le_of_ble_eq_true rfl) ⟨(Nat.le_of_ble_eq_true rfl), (Nat.le_of_ble_eq_true rfl)⟩ ⟨rfl, rfl⟩ ⟨Nat.zero_le _, Nat.zero_le _⟩ ?_
          refine z_i2l E (by omega) dX6_kind_80 ?_
          refine z_iload E dX6_kind_81 rfl ?_
          refine z_iconst E dX6_kind_83 ?_
          refine z_isub E dX6_kind_84 ?_
          rw [show (n : Int) - 1 = ((n - 1 : Nat) : Int) by omega]
          refine c_S E dX6_kind_85 lkX6_109 (ok_factorial (n - 1) (by omega) 172 _) rfl rfl rfl (Nat.le_of_ble_eq_true rfl) ⟨(Nat.le_of_ble_eq_true rfl), (Nat.le_of_ble_eq_true rfl)⟩ ⟨rfl, rfl⟩ ⟨Nat.zero_le _, Nat.zero_le _⟩ ?_
          refine c_S E dX6_kind_88 lkX6_87 (ok_turnedNumber _ (by omega) 172 _) rfl rfl rfl (Nat.le_of_ble_eq_true rfl) ⟨(Nat.le_of_ble_eq_true rfl), (Nat.le_of_ble_eq_true rfl)⟩ ⟨rfl, rfl⟩ ⟨Nat.zero_le _, Nat.zero_le _⟩ ?_
          refine z_i2l E (by omega) dX6_kind_91 ?_
          refine z_lmul E dX6_kind_92 ?_
          refine c_S E dX6_kind_93 lkX6_62 (ok_mod _ ⟨by omega, by omega⟩ (by omega) 172 _) rfl rfl rfl (Nat.le_of_ble_eq_true rfl) ⟨(Nat.le_of_ble_eq_true rfl), (Nat.le_of_ble_eq_true rfl)⟩ ⟨rfl, rfl⟩ ⟨Nat.zero_le _, Nat.zero_le _⟩ ?_
          rw [e1 (n - 1) (by omega)]
          refine z_istore (ls' := [_, _, _, _, _, _, _, _, _]) E dX6_kind_96 (Nat.le_of_ble_eq_true rfl) rfl ?_
          refine z_iload E dX6_kind_98 rfl ?_
          refine z_if_ne (tgt := 107) E (by omega) dX6_kind_100 (by decide) (fun h100 => ?_) (fun hq => False.elim (by omega))
          have lg : ∀ sg : Int, sg = (if n % 2 = 1 then 1 else -1) → Zc X 122 [some (.ref 156), some (.int (iI (s : Int))), some (.int (iI (kd : Int))), some (.int (iI v)), some (.int (iI (n : Int))), some (.int (iI (expS v n))), some (.int (iI (expS v (n - 1)))), l7, l8] [.long (lI sg)] 172 (mA A') 0 0 := by
            intro sg hsg
            have q1 : sg * pw v n * pw (n : Int) 10005 = sg * (pw v n * pw (n : Int) 10005) := Int.mul_assoc _ _ _
            have q2 : sg = 1 ∨ sg = -1 := by rw [hsg]; split <;> omega
            have q3 : -100120036 ≤ sg * pw v n * pw (n : Int) 10005 ∧ sg * pw v n * pw (n : Int) 10005 ≤ 100120036 := by
              rw [q1]
              rcases q2 with q | q
              · rw [q, Int.one_mul]; omega
              · rw [q, Int.neg_mul, Int.one_mul]; omega
            refine z_iload_n E dX6_kind_122 rfl ?_
            refine z_iload E dX6_kind_123 rfl ?_
            refine c_S E dX6_kind_125 lkX6_58 (ok_toThe v (by omega) n (by omega) 172 _) rfl rfl rfl (Nat.le_of_ble_eq_true rfl) ⟨(Nat.le_of_ble_eq_true rfl), (Nat.le_of_ble_eq_true rfl)⟩ ⟨rfl, rfl⟩ ⟨Nat.zero_le _, Nat.zero_le _⟩ ?_
            refine z_i2l E (by omega) dX6_kind_128 ?_
            refine z_lmul E dX6_kind_129 ?_
            refine z_iload E dX6_kind_130 rfl ?_
            refine c_S E dX6_kind_132 lkX6_87 (ok_turnedNumber (n : Int) (by omega) 172 _) rfl rfl rfl (Nat.le_of_ble_eq_true rfl) ⟨(Nat.le_of_ble_eq_true rfl), (Nat.le_of_ble_eq_true rfl)⟩ ⟨rfl, rfl⟩ ⟨Nat.zero_le _, Nat.zero_le _⟩ ?_
            refine z_i2l E (by omega) dX6_kind_135 ?_
            refine z_lmul E dX6_kind_136 ?_
            refine c_S E dX6_kind_137 lkX6_62 (ok_mod _ ⟨by omega, by omega⟩ (by omega) 172 _) rfl rfl rfl (Nat.le_of_ble_eq_true rfl) ⟨(Nat.le_of_ble_eq_true rfl), (Nat.le_of_ble_eq_true rfl)⟩ ⟨rfl, rfl⟩ ⟨Nat.zero_le _, Nat.zero_le _⟩ ?_
            rw [hsg]
            refine z_istore (ls' := [_, _, _, _, _, _, _, _, _]) E dX6_kind_140 (Nat.le_of_ble_eq_true rfl) rfl ?_
            refine z_iload E dX6_kind_142 rfl ?_
            refine z_if_ne (tgt := 151) E (by omega) dX6_kind_144 (by decide) (fun h144 => ?_) (fun hq => False.elim (by omega))
            refine z_iload_n E dX6_kind_151 rfl ?_
            refine z_ineg E dX6_kind_152 ?_
            refine z_i2l E (by omega) dX6_kind_153 ?_
            refine c_S E dX6_kind_154 lkX6_62 (ok_mod _ ⟨by omega, by omega⟩ (by omega) 172 _) rfl rfl rfl (Nat.le_of_ble_eq_true rfl) ⟨(Nat.le_of_ble_eq_true rfl), (Nat.le_of_ble_eq_true rfl)⟩ ⟨rfl, rfl⟩ ⟨Nat.zero_le _, Nat.zero_le _⟩ ?_
            refine z_iload E dX6_kind_157 rfl ?_
            refine z_iconst E dX6_kind_159 ?_
            refine z_isub E dX6_kind_160 ?_
            rw [show (n : Int) - 1 = ((n - 1 : Nat) : Int) by omega]
            refine c_S E dX6_kind_161 lkX6_58 (ok_toThe (-v % 10007) (by omega) (n - 1) (by omega) 172 _) rfl rfl rfl (Nat.le_of_ble_eq_true rfl) ⟨(Nat.le_of_ble_eq_true rfl), (Nat.le_of_ble_eq_true rfl)⟩ ⟨rfl, rfl⟩ ⟨Nat.zero_le _, Nat.zero_le _⟩ ?_
            refine z_istore (ls' := [_, _, _, _, _, _, _, _, _]) E dX6_kind_164 (Nat.le_of_ble_eq_true rfl) rfl ?_
            exact sel
          refine z_iload E dX6_kind_107 rfl ?_
          refine z_iconst E dX6_kind_109 ?_
          refine z_irem E (by omega) (by omega) (by omega) (Int.tmod_eq_emod_of_nonneg (by omega)) dX6_kind_110 ?_
          refine z_iconst E dX6_kind_111 ?_
          refine z_icmp_ne (tgt := 119) E (by omega) (by omega) dX6_kind_112 (by decide) (fun h112 => ?_) (fun h112 => ?_)
          · refine z_ldc2 (z := -1) E ctX6_112 (by decide) dX6_kind_119 ?_
            exact lg _ (by rw [if_neg (by omega)])
          · refine z_lconst (z := 1) E rfl dX6_kind_115 ?_
            refine z_goto (tgt := 122) E dX6_kind_116 (by decide) ?_
            exact lg _ (by rw [if_pos (by omega)])
  refine z_mem ?_ (loop 10 0 (by omega) none none none none _ rfl)
  exact (row_id (cel_ten t166) (fun j hj => if_neg (by omega))).symm
