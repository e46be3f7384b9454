/-! the reference made -/
set_option maxHeartbeats 4000000 in
set_option maxRecDepth 100000 in
theorem c_Model {g : Mem} (hg : g 156 = (5, nwX6)) : OkM mX6_init [.ref 156] 157 g 172 (fun r g' => r = none ∧ g' = ov g A0 156 172) := by
  refine OkM.of [some (.ref 156)] (by decide +kernel) rfl (Nat.le_of_ble_eq_true rfl) ?_
  intro X E F
  refine z_mem (show g = va_up (ov g A0 157 157) 156 (5, nwX6) by rw [ov_self]; exact mem_id hg) ?_
  refine z_aload_n E dX6_init_0 rfl ?_
  refine z_oi E dX6_init_1 oiX6 rfl (Nat.le_of_ble_eq_true rfl) (Nat.le_of_ble_eq_true rfl) ?_
  refine z_aload_n E dX6_init_4 rfl ?_
  refine z_bipush E (by decide) dX6_init_5 ?_
  refine z_newa (N := 157) (t := 7) (n := 8) E dX6_init_7 arZ ⟨rfl, Or.inr rfl⟩ rfl (by omega) ⟨Nat.le_of_ble_eq_true rfl, Nat.le_of_ble_eq_true rfl⟩ ?_
  refine z_mem (show _ = va_up (ov g A0 157 158) 156 (5, [.null, .null, .null, .null, .null, .int 0, .null, .null, .null, .null, .null, .null, .null, .null, .null, .null]) from mn_new (n := 157) (by omega) (by omega) rfl) ?_
  refine z_putF (ci := 5) E dX6_init_9 mem_at ffX6_7 rfl (fun _ => rfl) (fun _ => rfl) ?_
  refine z_mem (show _ = va_up (ov g A0 157 158) 156 (5, [.ref 157, .null, .null, .null, .null, .int 0, .null, .null, .null, .null, .null, .null, .null, .null, .null, .null]) from mem_uu _ _ _ _) ?_
  refine z_aload_n E dX6_init_12 rfl ?_
  refine z_bipush E (by decide) dX6_init_13 ?_
  refine z_newa (N := 158) (t := 6) (n := 8) E dX6_init_15 arI ⟨rfl, Or.inl rfl⟩ rfl (by omega) ⟨Nat.le_of_ble_eq_true rfl, Nat.le_of_ble_eq_true rfl⟩ ?_
  refine z_mem (show _ = va_up (ov g A0 157 159) 156 (5, [.ref 157, .null, .null, .null, .null, .int 0, .null, .null, .null, .null, .null, .null, .null, .null, .null, .null]) from mn_new (n := 158) (by omega) (by omega) rfl) ?_
  refine z_putF (ci := 5) E dX6_init_17 mem_at ffX6_13 rfl (fun _ => rfl) (fun _ => rfl) ?_
  refine z_mem (show _ = va_up (ov g A0 157 159) 156 (5, [.ref 157, .ref 158, .null, .null, .null, .int 0, .null, .null, .null, .null, .null, .null, .null, .null, .null, .null]) from mem_uu _ _ _ _) ?_
  refine z_aload_n E dX6_init_20 rfl ?_
  refine z_bipush E (by decide) dX6_init_21 ?_
  refine z_newa (N := 159) (t := 6) (n := 8) E dX6_init_23 arI ⟨rfl, Or.inl rfl⟩ rfl (by omega) ⟨Nat.le_of_ble_eq_true rfl, Nat.le_of_ble_eq_true rfl⟩ ?_
  refine z_mem (show _ = va_up (ov g A0 157 160) 156 (5, [.ref 157, .ref 158, .null, .null, .null, .int 0, .null, .null, .null, .null, .null, .null, .null, .null, .null, .null]) from mn_new (n := 159) (by omega) (by omega) rfl) ?_
  refine z_putF (ci := 5) E dX6_init_25 mem_at ffX6_17 rfl (fun _ => rfl) (fun _ => rfl) ?_
  refine z_mem (show _ = va_up (ov g A0 157 160) 156 (5, [.ref 157, .ref 158, .ref 159, .null, .null, .int 0, .null, .null, .null, .null, .null, .null, .null, .null, .null, .null]) from mem_uu _ _ _ _) ?_
  refine z_aload_n E dX6_init_28 rfl ?_
  refine z_sipush E (by decide) dX6_init_29 ?_
  refine z_newa (N := 160) (t := 6) (n := 160) E dX6_init_32 arI ⟨rfl, Or.inl rfl⟩ rfl (by omega) ⟨Nat.le_of_ble_eq_true rfl, Nat.le_of_ble_eq_true rfl⟩ ?_
  refine z_mem (show _ = va_up (ov g A0 157 161) 156 (5, [.ref 157, .ref 158, .ref 159, .null, .null, .int 0, .null, .null, .null, .null, .null, .null, .null, .null, .null, .null]) from mn_new (n := 160) (by omega) (by omega) rfl) ?_
  refine z_putF (ci := 5) E dX6_init_34 mem_at ffX6_20 rfl (fun _ => rfl) (fun _ => rfl) ?_
  refine z_mem (show _ = va_up (ov g A0 157 161) 156 (5, [.ref 157, .ref 158, .ref 159, .ref 160, .null, .int 0, .null, .null, .null, .null, .null, .null, .null, .null, .null, .null]) from mem_uu _ _ _ _) ?_
  refine z_aload_n E dX6_init_37 rfl ?_
  refine z_bipush E (by decide) dX6_init_38 ?_
  refine z_newa (N := 161) (t := 6) (n := 20) E dX6_init_40 arI ⟨rfl, Or.inl rfl⟩ rfl (by omega) ⟨Nat.le_of_ble_eq_true rfl, Nat.le_of_ble_eq_true rfl⟩ ?_
  refine z_mem (show _ = va_up (ov g A0 157 162) 156 (5, [.ref 157, .ref 158, .ref 159, .ref 160, .null, .int 0, .null, .null, .null, .null, .null, .null, .null, .null, .null, .null]) from mn_new (n := 161) (by omega) (by omega) rfl) ?_
  refine z_putF (ci := 5) E dX6_init_42 mem_at ffX6_23 rfl (fun _ => rfl) (fun _ => rfl) ?_
  refine z_mem (show _ = va_up (ov g A0 157 162) 156 (5, [.ref 157, .ref 158, .ref 159, .ref 160, .ref 161, .int 0, .null, .null, .null, .null, .null, .null, .null, .null, .null, .null]) from mem_uu _ _ _ _) ?_
  refine z_aload_n E dX6_init_45 rfl ?_
  refine z_bipush E (by decide) dX6_init_46 ?_
  refine z_newa (N := 162) (t := 6) (n := 10) E dX6_init_48 arI ⟨rfl, Or.inl rfl⟩ rfl (by omega) ⟨Nat.le_of_ble_eq_true rfl, Nat.le_of_ble_eq_true rfl⟩ ?_
  refine z_mem (show _ = va_up (ov g A0 157 163) 156 (5, [.ref 157, .ref 158, .ref 159, .ref 160, .ref 161, .int 0, .null, .null, .null, .null, .null, .null, .null, .null, .null, .null]) from mn_new (n := 162) (by omega) (by omega) rfl) ?_
  refine z_putF (ci := 5) E dX6_init_50 mem_at ffX6_26 rfl (fun _ => rfl) (fun _ => rfl) ?_
  refine z_mem (show _ = va_up (ov g A0 157 163) 156 (5, [.ref 157, .ref 158, .ref 159, .ref 160, .ref 161, .int 0, .ref 162, .null, .null, .null, .null, .null, .null, .null, .null, .null]) from mem_uu _ _ _ _) ?_
  refine z_aload_n E dX6_init_53 rfl ?_
  refine z_bipush E (by decide) dX6_init_54 ?_
  refine z_newa (N := 163) (t := 6) (n := 10) E dX6_init_56 arI ⟨rfl, Or.inl rfl⟩ rfl (by omega) ⟨Nat.le_of_ble_eq_true rfl, Nat.le_of_ble_eq_true rfl⟩ ?_
  refine z_mem (show _ = va_up (ov g A0 157 164) 156 (5, [.ref 157, .ref 158, .ref 159, .ref 160, .ref 161, .int 0, .ref 162, .null, .null, .null, .null, .null, .null, .null, .null, .null]) from mn_new (n := 163) (by omega) (by omega) rfl) ?_
  refine z_putF (ci := 5) E dX6_init_58 mem_at ffX6_29 rfl (fun _ => rfl) (fun _ => rfl) ?_
  refine z_mem (show _ = va_up (ov g A0 157 164) 156 (5, [.ref 157, .ref 158, .ref 159, .ref 160, .ref 161, .int 0, .ref 162, .ref 163, .null, .null, .null, .null, .null, .null, .null, .null]) from mem_uu _ _ _ _) ?_
  refine z_aload_n E dX6_init_61 rfl ?_
  refine z_bipush E (by decide) dX6_init_62 ?_
  refine z_newa (N := 164) (t := 6) (n := 10) E dX6_init_64 arI ⟨rfl, Or.inl rfl⟩ rfl (by omega) ⟨Nat.le_of_ble_eq_true rfl, Nat.le_of_ble_eq_true rfl⟩ ?_
  refine z_mem (show _ = va_up (ov g A0 157 165) 156 (5, [.ref 157, .ref 158, .ref 159, .ref 160, .ref 161, .int 0, .ref 162, .ref 163, .null, .null, .null, .null, .null, .null, .null, .null]) from mn_new (n := 164) (by omega) (by omega) rfl) ?_
  refine z_putF (ci := 5) E dX6_init_66 mem_at ffX6_32 rfl (fun _ => rfl) (fun _ => rfl) ?_
  refine z_mem (show _ = va_up (ov g A0 157 165) 156 (5, [.ref 157, .ref 158, .ref 159, .ref 160, .ref 161, .int 0, .ref 162, .ref 163, .ref 164, .null, .null, .null, .null, .null, .null, .null]) from mem_uu _ _ _ _) ?_
  refine z_aload_n E dX6_init_69 rfl ?_
  refine z_bipush E (by decide) dX6_init_70 ?_
  refine z_newa (N := 165) (t := 6) (n := 10) E dX6_init_72 arI ⟨rfl, Or.inl rfl⟩ rfl (by omega) ⟨Nat.le_of_ble_eq_true rfl, Nat.le_of_ble_eq_true rfl⟩ ?_
  refine z_mem (show _ = va_up (ov g A0 157 166) 156 (5, [.ref 157, .ref 158, .ref 159, .ref 160, .ref 161, .int 0, .ref 162, .ref 163, .ref 164, .null, .null, .null, .null, .null, .null, .null]) from mn_new (n := 165) (by omega) (by omega) rfl) ?_
  refine z_putF (ci := 5) E dX6_init_74 mem_at ffX6_35 rfl (fun _ => rfl) (fun _ => rfl) ?_
  refine z_mem (show _ = va_up (ov g A0 157 166) 156 (5, [.ref 157, .ref 158, .ref 159, .ref 160, .ref 161, .int 0, .ref 162, .ref 163, .ref 164, .ref 165, .null, .null, .null, .null, .null, .null]) from mem_uu _ _ _ _) ?_
  refine z_aload_n E dX6_init_77 rfl ?_
  refine z_bipush E (by decide) dX6_init_78 ?_
  refine z_newa (N := 166) (t := 6) (n := 10) E dX6_init_80 arI ⟨rfl, Or.inl rfl⟩ rfl (by omega) ⟨Nat.le_of_ble_eq_true rfl, Nat.le_of_ble_eq_true rfl⟩ ?_
  refine z_mem (show _ = va_up (ov g A0 157 167) 156 (5, [.ref 157, .ref 158, .ref 159, .ref 160, .ref 161, .int 0, .ref 162, .ref 163, .ref 164, .ref 165, .null, .null, .null, .null, .null, .null]) from mn_new (n := 166) (by omega) (by omega) rfl) ?_
  refine z_putF (ci := 5) E dX6_init_82 mem_at ffX6_38 rfl (fun _ => rfl) (fun _ => rfl) ?_
  refine z_mem (show _ = va_up (ov g A0 157 167) 156 (5, [.ref 157, .ref 158, .ref 159, .ref 160, .ref 161, .int 0, .ref 162, .ref 163, .ref 164, .ref 165, .ref 166, .null, .null, .null, .null, .null]) from mem_uu _ _ _ _) ?_
  refine z_aload_n E dX6_init_85 rfl ?_
  refine z_bipush E (by decide) dX6_init_86 ?_
  refine z_newa (N := 167) (t := 6) (n := 10) E dX6_init_88 arI ⟨rfl, Or.inl rfl⟩ rfl (by omega) ⟨Nat.le_of_ble_eq_true rfl, Nat.le_of_ble_eq_true rfl⟩ ?_
  refine z_mem (show _ = va_up (ov g A0 157 168) 156 (5, [.ref 157, .ref 158, .ref 159, .ref 160, .ref 161, .int 0, .ref 162, .ref 163, .ref 164, .ref 165, .ref 166, .null, .null, .null, .null, .null]) from mn_new (n := 167) (by omega) (by omega) rfl) ?_
  refine z_putF (ci := 5) E dX6_init_90 mem_at ffX6_41 rfl (fun _ => rfl) (fun _ => rfl) ?_
  refine z_mem (show _ = va_up (ov g A0 157 168) 156 (5, [.ref 157, .ref 158, .ref 159, .ref 160, .ref 161, .int 0, .ref 162, .ref 163, .ref 164, .ref 165, .ref 166, .ref 167, .null, .null, .null, .null]) from mem_uu _ _ _ _) ?_
  refine z_aload_n E dX6_init_93 rfl ?_
  refine z_bipush E (by decide) dX6_init_94 ?_
  refine z_newa (N := 168) (t := 6) (n := 10) E dX6_init_96 arI ⟨rfl, Or.inl rfl⟩ rfl (by omega) ⟨Nat.le_of_ble_eq_true rfl, Nat.le_of_ble_eq_true rfl⟩ ?_
  refine z_mem (show _ = va_up (ov g A0 157 169) 156 (5, [.ref 157, .ref 158, .ref 159, .ref 160, .ref 161, .int 0, .ref 162, .ref 163, .ref 164, .ref 165, .ref 166, .ref 167, .null, .null, .null, .null]) from mn_new (n := 168) (by omega) (by omega) rfl) ?_
  refine z_putF (ci := 5) E dX6_init_98 mem_at ffX6_44 rfl (fun _ => rfl) (fun _ => rfl) ?_
  refine z_mem (show _ = va_up (ov g A0 157 169) 156 (5, [.ref 157, .ref 158, .ref 159, .ref 160, .ref 161, .int 0, .ref 162, .ref 163, .ref 164, .ref 165, .ref 166, .ref 167, .ref 168, .null, .null, .null]) from mem_uu _ _ _ _) ?_
  refine z_aload_n E dX6_init_101 rfl ?_
  refine z_bipush E (by decide) dX6_init_102 ?_
  refine z_newa (N := 169) (t := 6) (n := 10) E dX6_init_104 arI ⟨rfl, Or.inl rfl⟩ rfl (by omega) ⟨Nat.le_of_ble_eq_true rfl, Nat.le_of_ble_eq_true rfl⟩ ?_
  refine z_mem (show _ = va_up (ov g A0 157 170) 156 (5, [.ref 157, .ref 158, .ref 159, .ref 160, .ref 161, .int 0, .ref 162, .ref 163, .ref 164, .ref 165, .ref 166, .ref 167, .ref 168, .null, .null, .null]) from mn_new (n := 169) (by omega) (by omega) rfl) ?_
  refine z_putF (ci := 5) E dX6_init_106 mem_at ffX6_47 rfl (fun _ => rfl) (fun _ => rfl) ?_
  refine z_mem (show _ = va_up (ov g A0 157 170) 156 (5, [.ref 157, .ref 158, .ref 159, .ref 160, .ref 161, .int 0, .ref 162, .ref 163, .ref 164, .ref 165, .ref 166, .ref 167, .ref 168, .ref 169, .null, .null]) from mem_uu _ _ _ _) ?_
  refine z_aload_n E dX6_init_109 rfl ?_
  refine z_iconst E dX6_init_110 ?_
  refine z_newa (N := 170) (t := 7) (n := 4) E dX6_init_111 arZ ⟨rfl, Or.inr rfl⟩ rfl (by omega) ⟨Nat.le_of_ble_eq_true rfl, Nat.le_of_ble_eq_true rfl⟩ ?_
  refine z_mem (show _ = va_up (ov g A0 157 171) 156 (5, [.ref 157, .ref 158, .ref 159, .ref 160, .ref 161, .int 0, .ref 162, .ref 163, .ref 164, .ref 165, .ref 166, .ref 167, .ref 168, .ref 169, .null, .null]) from mn_new (n := 170) (by omega) (by omega) rfl) ?_
  refine z_putF (ci := 5) E dX6_init_113 mem_at ffX6_50 rfl (fun _ => rfl) (fun _ => rfl) ?_
  refine z_mem (show _ = va_up (ov g A0 157 171) 156 (5, [.ref 157, .ref 158, .ref 159, .ref 160, .ref 161, .int 0, .ref 162, .ref 163, .ref 164, .ref 165, .ref 166, .ref 167, .ref 168, .ref 169, .ref 170, .null]) from mem_uu _ _ _ _) ?_
  refine z_aload_n E dX6_init_116 rfl ?_
  refine z_sipush E (by decide) dX6_init_117 ?_
  refine z_newa (N := 171) (t := 6) (n := 400) E dX6_init_120 arI ⟨rfl, Or.inl rfl⟩ rfl (by omega) ⟨Nat.le_of_ble_eq_true rfl, Nat.le_of_ble_eq_true rfl⟩ ?_
  refine z_mem (show _ = va_up (ov g A0 157 172) 156 (5, [.ref 157, .ref 158, .ref 159, .ref 160, .ref 161, .int 0, .ref 162, .ref 163, .ref 164, .ref 165, .ref 166, .ref 167, .ref 168, .ref 169, .ref 170, .null]) from mn_new (n := 171) (by omega) (by omega) rfl) ?_
  refine z_putF (ci := 5) E dX6_init_122 mem_at ffX6_53 rfl (fun _ => rfl) (fun _ => rfl) ?_
  refine z_mem (show _ = va_up (ov g A0 157 172) 156 (5, [.ref 157, .ref 158, .ref 159, .ref 160, .ref 161, .int 0, .ref 162, .ref 163, .ref 164, .ref 165, .ref 166, .ref 167, .ref 168, .ref 169, .ref 170, .ref 171]) from mem_uu _ _ _ _) ?_
  refine z_vret E F dX6_init_125 ⟨rfl, ?_⟩
  rw [ov_out (by omega)]
  exact ov_dn (lo := 156) (by omega) rfl
/-! the landed object made -/
def bb (g : Mem) (L0 L1 L2 : List Value) : Mem := va_up (va_up (va_up g 0 (4, L0)) 1 (9, L1)) 2 (10, L2)
theorem bb_0 {g : Mem} {L0 L1 L2 : List Value} : bb g L0 L1 L2 0 = (4, L0) := by unfold bb; rw [va_up_ne _ _ (by omega), va_up_ne _ _ (by omega), va_up_self]
theorem bb_1 {g : Mem} {L0 L1 L2 : List Value} : bb g L0 L1 L2 1 = (9, L1) := by unfold bb; rw [va_up_ne _ _ (by omega), va_up_self]
theorem bb_2 {g : Mem} {L0 L1 L2 : List Value} : bb g L0 L1 L2 2 = (10, L2) := by unfold bb; rw [va_up_self]
theorem bb_u0 {g : Mem} {L0 L1 L2 L : List Value} : va_up (bb g L0 L1 L2) 0 (4, L) = bb g L L1 L2 := by
  unfold bb; rw [mem_cm (a := 2) (b := 0) (by omega), mem_cm (a := 1) (b := 0) (by omega), mem_uu]
theorem bb_u1 {g : Mem} {L0 L1 L2 L : List Value} : va_up (bb g L0 L1 L2) 1 (9, L) = bb g L0 L L2 := by
  unfold bb; rw [mem_cm (a := 2) (b := 1) (by omega), mem_uu]
theorem bb_u2 {g : Mem} {L0 L1 L2 L : List Value} : va_up (bb g L0 L1 L2) 2 (10, L) = bb g L0 L1 L := by
  unfold bb; rw [mem_uu]
theorem ov_ser {g : Mem} {A : Nat → Nat → Int} {lo n : Nat} (hs : SerK n) (hlo : lo ≤ n) (hA : A (n + 1) = fun _ => 0) : va_up (va_up (ov g A lo n) n (2, [.ref (n + 1)])) (n + 1) (6, vals 10 (fun _ => 0)) = ov g A lo (n + 2) := by
  rw [ov_new hlo (cel_ser hs _), ov_new (by omega) (by rw [cel_row hs, hA])]
theorem ov_sheet {g : Mem} {A : Nat → Nat → Int} {lo s n : Nat} {x : Cel} (hs : s < 8) (hn : n = 52 + 2 * s) (hlo : lo ≤ n) (hA : ∀ k, 40 ≤ k → A k = A0 k) : va_up (va_up (va_up (ov g A lo n) n x) (n + 1) (6, vals 20 (fun _ => 0))) n (3, [.ref (n + 1), .int (iI 1), .int (iI 0), .int (iI 0)]) = ov g A lo (n + 2) := by
  subst hn
  have e : A (52 + 2 * s) = up (fun _ => 0) 1 1 := by rw [hA _ (by omega)]; exact if_pos ⟨by omega, by omega, by omega⟩
  rw [mem_cm (a := 52 + 2 * s + 1) (b := 52 + 2 * s) (by omega), mem_uu, ov_new hlo (by rw [cel_sheet hs, e, show 53 + 2 * s = 52 + 2 * s + 1 by omega]; rfl), ov_new (by omega) (by rw [show 52 + 2 * s + 1 = 53 + 2 * s by omega, cel_items hs, hA _ (by omega), A0_z (by omega)])]
abbrev fx5 : List Value := [.ref 1, .ref 2, .ref 3, .ref 40, .ref 42, .ref 44, .ref 46, .ref 48, .ref 50, .int (iI 0)]
set_option maxHeartbeats 4000000 in
set_option maxRecDepth 100000 in
theorem c_Landed {g : Mem} (hg : g 0 = (4, nwX5)) : OkM mX5_init [.ref 0] 1 g 156 (fun r g' => r = none ∧ ∃ A, g' = ov g A 0 156 ∧ KA A ∧ ∀ k, (k < 3 ∨ 40 ≤ k) → A k = A0 k) := by
  refine OkM.of [some (.ref 0), none] (by decide +kernel) rfl (Nat.le_of_ble_eq_true rfl) ?_
  intro X E F
  have L2 : ∀ (mm i : Nat), i + mm = 4 → ∀ A, KA A → (∀ k, (k < 3 ∨ 40 ≤ k) → A k = A0 k) → ∀ N, N = 68 + 22 * i → ∀ M : Mem, M = ov (bb g fx5 ((List.range 8).map (fun s => .ref (52 + 2 * s))) (prt 4 i (fun s => 68 + 22 * s))) A 3 N → ∀ cl sl : Nat, cl = 67 + 22 * i → sl = 687 + 122 * i → Zc X 132 [some (.ref 0), some (.int (iI (i : Int)))] [] N M cl sl := by
    intro mm
    induction mm with
    | zero =>
      intro i hi A hK hA N hN M hM cl sl hcl hsl
      obtain rfl : i = 4 := by omega
      subst hcl; subst hsl
      obtain rfl : N = 156 := by omega
      refine z_iload_n E dX5_init_132 rfl ?_
      refine z_iconst E dX5_init_133 ?_
      refine z_icmp_ge (tgt := 156) E (by omega) (by omega) dX5_init_134 (by decide) (fun h134 => ?_) (fun hq => False.elim (by omega))
      refine z_vret E F dX5_init_156 ⟨rfl, A, ?_, hK, hA⟩
      rw [hM, prt_all]
      unfold bb
      refine (ov_dn (lo := 2) (by omega) ?_).trans ((ov_dn (lo := 1) (by omega) ?_).trans (ov_dn (lo := 0) (by omega) ?_))
      · rfl
      · rfl
      · rw [hA 0 (by omega)]; rfl
    | succ mm ih =>
      intro i hi A hK hA N hN M hM cl sl hcl hsl
      refine z_iload_n E dX5_init_132 rfl ?_
      refine z_iconst E dX5_init_133 ?_
      refine z_icmp_ge (tgt := 156) E (by omega) (by omega) dX5_init_134 (by decide) (fun hq => False.elim (by omega)) (fun h134 => ?_)
      refine z_aload_n E dX5_init_137 rfl ?_
      refine z_get E dX5_init_138 (by rw [hM]; exact (ov_no (by omega)).trans bb_0) flX5_17 (by rfl) ?_
      refine z_iload_n E dX5_init_141 rfl ?_
      refine z_new (N := N) E dX5_init_142 fnX5_15 ⟨by show cl + 1 ≤ 155; omega, by show sl + 2 ≤ 1175; omega⟩ ?_
      refine z_dup E dX5_init_145 rfl ?_
      refine z_callI (st := [.ref N, .int (iI (i : Int)), .ref 2]) (N' := N + 22) (r2 := mX1_init.2.2.2.2) E dX5_init_146 liX5_55 (c_Ladder (q := i) (by omega) hN mem_at) rfl (Nat.le_of_ble_eq_true rfl) (by omega) ⟨Nat.le_of_ble_eq_true rfl, Nat.le_of_ble_eq_true rfl⟩ ⟨by show cl + 1 + 21 ≤ 155; omega, by show sl + 2 + 120 ≤ 1175; omega⟩ ?_
      refine z_mem (show _ = ov (bb g fx5 ((List.range 8).map (fun s => .ref (52 + 2 * s))) (prt 4 i (fun s => 68 + 22 * s))) A 3 (N + 22) by
        rw [ov_hid (by omega), hM, ov_congr (A' := A) (fun k h1 h2 => (hA k (by omega)).symm), ov_ov (by omega)]) ?_
      refine z_aast (ci := 1) (j := i) (fs := [.ref (N + 1), .int (iI 0)]) E dX5_init_149 rfl rfl (by omega) ((ov_no (by omega)).trans bb_2) ((ov_in (by omega) (by omega)).trans (by rw [hA N (by omega), hN, cel_lad (by omega), A0_z (by omega), show 69 + 22 * i = 68 + 22 * i + 1 by omega])) rfl (by omega) (by rw [prt_len]; omega) ?_
      refine z_iinc (ls' := [_, _]) E dX5_init_150 rfl rfl ?_
      refine z_goto (tgt := 132) E dX5_init_153 (by decide) ?_
      refine ih (i + 1) (by omega) A hK hA (N + 22) (by omega) _ ?_ _ _ ?_ ?_
      · rw [ov_out (by omega), bb_u2, ← prt_set _ (by omega), hN]
      · show cl + 1 + 21 = _; omega
      · show sl + 2 + 120 = _; omega
  have L1 : ∀ (mm i : Nat), i + mm = 8 → ∀ A, KA A → (∀ k, (k < 3 ∨ 40 ≤ k) → A k = A0 k) → ∀ N, N = 52 + 2 * i → ∀ M : Mem, M = ov (bb g fx5 (prt 8 i (fun s => 52 + 2 * s)) (prt 4 0 (fun s => 68 + 22 * s))) A 3 N → ∀ cl sl : Nat, cl = 51 + 2 * i → sl = 495 + 24 * i → Zc X 105 [some (.ref 0), some (.int (iI (i : Int)))] [] N M cl sl := by
    intro mm
    induction mm with
    | zero =>
      intro i hi A hK hA N hN M hM cl sl hcl hsl
      obtain rfl : i = 8 := by omega
      refine z_iload_n E dX5_init_105 rfl ?_
      refine z_bipush E (by decide) dX5_init_106 ?_
      refine z_icmp_ge (tgt := 130) E (by omega) (by omega) dX5_init_108 (by decide) (fun h108 => ?_) (fun hq => False.elim (by omega))
      refine z_iconst E dX5_init_130 ?_
      refine z_istore_n (ls' := [_, _]) E rfl dX5_init_131 (Nat.le_of_ble_eq_true rfl) rfl ?_
      refine L2 4 0 rfl A hK hA N (by omega) M ?_ _ _ (by omega) (by omega)
      rw [hM, prt_all]
    | succ mm ih =>
      intro i hi A hK hA N hN M hM cl sl hcl hsl
      refine z_iload_n E dX5_init_105 rfl ?_
      refine z_bipush E (by decide) dX5_init_106 ?_
      refine z_icmp_ge (tgt := 130) E (by omega) (by omega) dX5_init_108 (by decide) (fun hq => False.elim (by omega)) (fun h108 => ?_)
      refine z_aload_n E dX5_init_111 rfl ?_
      refine z_get E dX5_init_112 (by rw [hM]; exact (ov_no (by omega)).trans bb_0) flX5_11 (by rfl) ?_
      refine z_iload_n E dX5_init_115 rfl ?_
      refine z_new (N := N) E dX5_init_116 fnX5_9 ⟨by show cl + 1 ≤ 155; omega, by show sl + 4 ≤ 1175; omega⟩ ?_
      refine z_dup E dX5_init_119 rfl ?_
      refine z_callN (st := [.ref N, .int (iI (i : Int)), .ref 1]) (N' := N + 2) (r2 := mX4_init.2.2.2.2) E dX5_init_120 lnX5_54 (c_Sheet mem_at (by omega)) rfl (Nat.le_of_ble_eq_true rfl) (by omega) ⟨Nat.le_of_ble_eq_true rfl, Nat.le_of_ble_eq_true rfl⟩ ⟨by show cl + 1 + 1 ≤ 155; omega, by show sl + 4 + 20 ≤ 1175; omega⟩ ?_
      refine z_mem (show _ = ov (bb g fx5 (prt 8 i (fun s => 52 + 2 * s)) (prt 4 0 (fun s => 68 + 22 * s))) A 3 (N + 2) by
        rw [hM]; exact ov_sheet (s := i) (by omega) hN (by omega) (fun k hk => hA k (by omega))) ?_
      refine z_aast (ci := 3) (j := i) (fs := [.ref (53 + 2 * i), .int (iI (A N 1)), .int (iI (A N 2)), .int (iI (A N 3))]) E dX5_init_123 rfl rfl (by omega) ((ov_no (by omega)).trans bb_1) ((ov_in (by omega) (by omega)).trans (by rw [hN, cel_sheet (by omega)])) rfl (by omega) (by rw [prt_len]; omega) ?_
      refine z_iinc (ls' := [_, _]) E dX5_init_124 rfl rfl ?_
      refine z_goto (tgt := 105) E dX5_init_127 (by decide) ?_
      refine ih (i + 1) (by omega) A hK hA (N + 2) (by omega) _ ?_ _ _ ?_ ?_
      · rw [ov_out (by omega), bb_u1, ← prt_set _ (by omega), hN]
      · show cl + 1 + 1 = _; omega
      · show sl + 4 + 20 = _; omega
  refine z_aload_n E dX5_init_0 rfl ?_
  refine z_oi E dX5_init_1 oiX5 rfl (Nat.le_of_ble_eq_true rfl) (Nat.le_of_ble_eq_true rfl) ?_
  refine z_aload_n E dX5_init_4 rfl ?_
  refine z_bipush E (by decide) dX5_init_5 ?_
  refine z_anew (N := 1) (t := 9) (n := 8) E dX5_init_7 clX5_9 aoX4 rfl (by omega) rfl (by omega) ⟨Nat.le_of_ble_eq_true rfl, Nat.le_of_ble_eq_true rfl⟩ ?_
  refine z_putF (ci := 4) E dX5_init_10 (mem_ne (by omega) hg) ffX5_11 rfl (fun _ => rfl) (fun _ => rfl) ?_
  refine z_aload_n E dX5_init_13 rfl ?_
  refine z_iconst E dX5_init_14 ?_
  refine z_anew (N := 2) (t := 10) (n := 4) E dX5_init_15 clX5_15 aoX1 rfl (by omega) rfl (by omega) ⟨Nat.le_of_ble_eq_true rfl, Nat.le_of_ble_eq_true rfl⟩ ?_
  refine z_putF (ci := 4) E dX5_init_18 (mem_ne (by omega) mem_at) ffX5_17 rfl (fun _ => rfl) (fun _ => rfl) ?_
  refine z_mem (show _ = bb g [.ref 1, .ref 2, .null, .null, .null, .null, .null, .null, .null, .int 0] (prt 8 0 (fun s => 52 + 2 * s)) (prt 4 0 (fun s => 68 + 22 * s)) by
    rw [← prt_0, ← prt_0]
    unfold bb
    rw [mem_cm (a := 2) (b := 0) (by omega), mem_uu, mem_cm (a := 1) (b := 0) (by omega)]
    rfl) ?_
  refine z_aload_n E dX5_init_21 rfl ?_
  refine z_new (N := 3) E dX5_init_22 fnX5_21 ⟨Nat.le_of_ble_eq_true rfl, Nat.le_of_ble_eq_true rfl⟩ ?_
  refine z_dup E dX5_init_25 rfl ?_
  refine z_callIQ (st := [.ref 3, .ref 0]) (N := 4) (N' := 40) (r2 := mX0_init.2.2.2.2) E dX5_init_26 liX5_23 (c_Algebra mem_at) rfl (Nat.le_of_ble_eq_true rfl) (by omega) ⟨Nat.le_of_ble_eq_true rfl, Nat.le_of_ble_eq_true rfl⟩ ⟨Nat.le_of_ble_eq_true rfl, Nat.le_of_ble_eq_true rfl⟩ ?_
  rintro g' ⟨Aq, hg', hKq⟩
  have hA : ∀ k, (k < 3 ∨ 40 ≤ k) → (fun k => if 3 ≤ k ∧ k < 40 then Aq k else A0 k) k = A0 k := fun k hk => if_neg (by omega)
  have hA2 : ∀ k, 3 ≤ k → k < 40 → (fun k => if 3 ≤ k ∧ k < 40 then Aq k else A0 k) k = Aq k := fun k h1 h2 => if_pos ⟨h1, h2⟩
  have hK : KA (fun k => if 3 ≤ k ∧ k < 40 then Aq k else A0 k) := by
    refine ⟨fun n h1 h2 => ?_, fun n hn => ?_, fun n hn => ?_, ?_, fun n k hk hn => ?_⟩
    · rw [show (fun k => if 3 ≤ k ∧ k < 40 then Aq k else A0 k) 4 = Aq 4 from hA2 4 (by omega) (by omega)]; exact hKq.1 n h1 h2
    · rw [show (fun k => if 3 ≤ k ∧ k < 40 then Aq k else A0 k) 5 = Aq 5 from hA2 5 (by omega) (by omega)]; exact hKq.2.1 n hn
    · rw [show (fun k => if 3 ≤ k ∧ k < 40 then Aq k else A0 k) 6 = Aq 6 from hA2 6 (by omega) (by omega)]; exact hKq.2.2.1 n hn
    · rw [show (fun k => if 3 ≤ k ∧ k < 40 then Aq k else A0 k) 31 = Aq 31 from hA2 31 (by omega) (by omega)]; exact hKq.2.2.2.1
    · rw [show (fun k => if 3 ≤ k ∧ k < 40 then Aq k else A0 k) (8 + n) = Aq (8 + n) from hA2 (8 + n) (by omega) (by omega)]; exact hKq.2.2.2.2 n k hk hn
  have hc : ∀ g1 : Mem, ov g1 Aq 3 40 = ov g1 (fun k => if 3 ≤ k ∧ k < 40 then Aq k else A0 k) 3 40 := fun g1 => ov_congr (fun k h1 h2 => (hA2 k h1 h2).symm)
  rw [hg', ov_hid (by omega), hc]
  generalize (fun k => if 3 ≤ k ∧ k < 40 then Aq k else A0 k) = A at hA hK ⊢
  refine z_putF (ci := 4) E dX5_init_29 ((ov_no (by omega)).trans bb_0) ffX5_24 rfl (fun _ => rfl) (fun _ => rfl) ?_
  refine z_mem (show _ = ov (bb g [.ref 1, .ref 2, .ref 3, .null, .null, .null, .null, .null, .null, .int 0] (prt 8 0 (fun s => 52 + 2 * s)) (prt 4 0 (fun s => 68 + 22 * s))) A 3 40 by rw [ov_out (by omega), bb_u0]; rfl) ?_
  refine z_aload_n E dX5_init_32 rfl ?_
  refine z_newS (N := 40) E dX5_init_33 dX5_init_36 dX5_init_37 fnX5_28 lnX5_30 rfl (Nat.le_of_ble_eq_true rfl) ⟨Nat.le_of_ble_eq_true rfl, Nat.le_of_ble_eq_true rfl⟩ ⟨Nat.le_of_ble_eq_true rfl, Nat.le_of_ble_eq_true rfl⟩ ?_
  refine z_mem (show _ = ov (bb g [.ref 1, .ref 2, .ref 3, .null, .null, .null, .null, .null, .null, .int 0] (prt 8 0 (fun s => 52 + 2 * s)) (prt 4 0 (fun s => 68 + 22 * s))) A 3 42 from ov_ser (n := 40) ⟨by omega, by omega⟩ (by omega) ((hA 41 (by omega)).trans (A0_z (by omega)))) ?_
  refine z_putF (ci := 4) E dX5_init_40 ((ov_no (by omega)).trans bb_0) ffX5_31 rfl (fun _ => rfl) (fun _ => rfl) ?_
  refine z_mem (show _ = ov (bb g [.ref 1, .ref 2, .ref 3, .ref 40, .null, .null, .null, .null, .null, .int 0] (prt 8 0 (fun s => 52 + 2 * s)) (prt 4 0 (fun s => 68 + 22 * s))) A 3 42 by rw [ov_out (by omega), bb_u0]; rfl) ?_
  refine z_aload_n E dX5_init_43 rfl ?_
  refine z_newS (N := 42) E dX5_init_44 dX5_init_47 dX5_init_48 fnX5_28 lnX5_30 rfl (Nat.le_of_ble_eq_true rfl) ⟨Nat.le_of_ble_eq_true rfl, Nat.le_of_ble_eq_true rfl⟩ ⟨Nat.le_of_ble_eq_true rfl, Nat.le_of_ble_eq_true rfl⟩ ?_
  refine z_mem (show _ = ov (bb g [.ref 1, .ref 2, .ref 3, .ref 40, .null, .null, .null, .null, .null, .int 0] (prt 8 0 (fun s => 52 + 2 * s)) (prt 4 0 (fun s => 68 + 22 * s))) A 3 44 from ov_ser (n := 42) ⟨by omega, by omega⟩ (by omega) ((hA 43 (by omega)).trans (A0_z (by omega)))) ?_
  refine z_putF (ci := 4) E dX5_init_51 ((ov_no (by omega)).trans bb_0) ffX5_35 rfl (fun _ => rfl) (fun _ => rfl) ?_
  refine z_mem (show _ = ov (bb g [.ref 1, .ref 2, .ref 3, .ref 40, .ref 42, .null, .null, .null, .null, .int 0] (prt 8 0 (fun s => 52 + 2 * s)) (prt 4 0 (fun s => 68 + 22 * s))) A 3 44 by rw [ov_out (by omega), bb_u0]; rfl) ?_
  refine z_aload_n E dX5_init_54 rfl ?_
  refine z_newS (N := 44) E dX5_init_55 dX5_init_58 dX5_init_59 fnX5_28 lnX5_30 rfl (Nat.le_of_ble_eq_true rfl) ⟨Nat.le_of_ble_eq_true rfl, Nat.le_of_ble_eq_true rfl⟩ ⟨Nat.le_of_ble_eq_true rfl, Nat.le_of_ble_eq_true rfl⟩ ?_
  refine z_mem (show _ = ov (bb g [.ref 1, .ref 2, .ref 3, .ref 40, .ref 42, .null, .null, .null, .null, .int 0] (prt 8 0 (fun s => 52 + 2 * s)) (prt 4 0 (fun s => 68 + 22 * s))) A 3 46 from ov_ser (n := 44) ⟨by omega, by omega⟩ (by omega) ((hA 45 (by omega)).trans (A0_z (by omega)))) ?_
  refine z_putF (ci := 4) E dX5_init_62 ((ov_no (by omega)).trans bb_0) ffX5_38 rfl (fun _ => rfl) (fun _ => rfl) ?_
  refine z_mem (show _ = ov (bb g [.ref 1, .ref 2, .ref 3, .ref 40, .ref 42, .ref 44, .null, .null, .null, .int 0] (prt 8 0 (fun s => 52 + 2 * s)) (prt 4 0 (fun s => 68 + 22 * s))) A 3 46 by rw [ov_out (by omega), bb_u0]; rfl) ?_
  refine z_aload_n E dX5_init_65 rfl ?_
  refine z_newS (N := 46) E dX5_init_66 dX5_init_69 dX5_init_70 fnX5_28 lnX5_30 rfl (Nat.le_of_ble_eq_true rfl) ⟨Nat.le_of_ble_eq_true rfl, Nat.le_of_ble_eq_true rfl⟩ ⟨Nat.le_of_ble_eq_true rfl, Nat.le_of_ble_eq_true rfl⟩ ?_
  refine z_mem (show _ = ov (bb g [.ref 1, .ref 2, .ref 3, .ref 40, .ref 42, .ref 44, .null, .null, .null, .int 0] (prt 8 0 (fun s => 52 + 2 * s)) (prt 4 0 (fun s => 68 + 22 * s))) A 3 48 from ov_ser (n := 46) ⟨by omega, by omega⟩ (by omega) ((hA 47 (by omega)).trans (A0_z (by omega)))) ?_
  refine z_putF (ci := 4) E dX5_init_73 ((ov_no (by omega)).trans bb_0) ffX5_41 rfl (fun _ => rfl) (fun _ => rfl) ?_
  refine z_mem (show _ = ov (bb g [.ref 1, .ref 2, .ref 3, .ref 40, .ref 42, .ref 44, .ref 46, .null, .null, .int 0] (prt 8 0 (fun s => 52 + 2 * s)) (prt 4 0 (fun s => 68 + 22 * s))) A 3 48 by rw [ov_out (by omega), bb_u0]; rfl) ?_
  refine z_aload_n E dX5_init_76 rfl ?_
  refine z_newS (N := 48) E dX5_init_77 dX5_init_80 dX5_init_81 fnX5_28 lnX5_30 rfl (Nat.le_of_ble_eq_true rfl) ⟨Nat.le_of_ble_eq_true rfl, Nat.le_of_ble_eq_true rfl⟩ ⟨Nat.le_of_ble_eq_true rfl, Nat.le_of_ble_eq_true rfl⟩ ?_
  refine z_mem (show _ = ov (bb g [.ref 1, .ref 2, .ref 3, .ref 40, .ref 42, .ref 44, .ref 46, .null, .null, .int 0] (prt 8 0 (fun s => 52 + 2 * s)) (prt 4 0 (fun s => 68 + 22 * s))) A 3 50 from ov_ser (n := 48) ⟨by omega, by omega⟩ (by omega) ((hA 49 (by omega)).trans (A0_z (by omega)))) ?_
  refine z_putF (ci := 4) E dX5_init_84 ((ov_no (by omega)).trans bb_0) ffX5_44 rfl (fun _ => rfl) (fun _ => rfl) ?_
  refine z_mem (show _ = ov (bb g [.ref 1, .ref 2, .ref 3, .ref 40, .ref 42, .ref 44, .ref 46, .ref 48, .null, .int 0] (prt 8 0 (fun s => 52 + 2 * s)) (prt 4 0 (fun s => 68 + 22 * s))) A 3 50 by rw [ov_out (by omega), bb_u0]; rfl) ?_
  refine z_aload_n E dX5_init_87 rfl ?_
  refine z_newS (N := 50) E dX5_init_88 dX5_init_91 dX5_init_92 fnX5_28 lnX5_30 rfl (Nat.le_of_ble_eq_true rfl) ⟨Nat.le_of_ble_eq_true rfl, Nat.le_of_ble_eq_true rfl⟩ ⟨Nat.le_of_ble_eq_true rfl, Nat.le_of_ble_eq_true rfl⟩ ?_
  refine z_mem (show _ = ov (bb g [.ref 1, .ref 2, .ref 3, .ref 40, .ref 42, .ref 44, .ref 46, .ref 48, .null, .int 0] (prt 8 0 (fun s => 52 + 2 * s)) (prt 4 0 (fun s => 68 + 22 * s))) A 3 52 from ov_ser (n := 50) ⟨by omega, by omega⟩ (by omega) ((hA 51 (by omega)).trans (A0_z (by omega)))) ?_
  refine z_putF (ci := 4) E dX5_init_95 ((ov_no (by omega)).trans bb_0) ffX5_47 rfl (fun _ => rfl) (fun _ => rfl) ?_
  refine z_mem (show _ = ov (bb g [.ref 1, .ref 2, .ref 3, .ref 40, .ref 42, .ref 44, .ref 46, .ref 48, .ref 50, .int 0] (prt 8 0 (fun s => 52 + 2 * s)) (prt 4 0 (fun s => 68 + 22 * s))) A 3 52 by rw [ov_out (by omega), bb_u0]; rfl) ?_
  refine z_aload_n E dX5_init_98 rfl ?_
  refine z_iconst E dX5_init_99 ?_
  refine z_put (ci := 4) E dX5_init_100 ((ov_no (by omega)).trans bb_0) fpX5_50 (fun _ => rfl) (fun _ => rfl) ?_
  refine z_mem (show _ = ov (bb g fx5 (prt 8 0 (fun s => 52 + 2 * s)) (prt 4 0 (fun s => 68 + 22 * s))) A 3 52 by rw [ov_out (by omega), bb_u0]; rfl) ?_
  refine z_iconst E dX5_init_103 ?_
  refine z_istore_n (ls' := [_, _]) E rfl dX5_init_104 (Nat.le_of_ble_eq_true rfl) rfl ?_
  exact L1 8 0 rfl A hK hA 52 rfl _ rfl _ _ rfl rfl
