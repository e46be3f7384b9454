/-! what the tables say of making objects -/
theorem arI : Cond.arrayClass (newarray.typeOf .int) ∈ tblG := in_tbl 66 (by decide +kernel) rfl
theorem arZ : Cond.arrayClass (newarray.typeOf .boolean) ∈ tblG := in_tbl 580 (by decide +kernel) rfl
abbrev nwX0 : List Value := [.null, .null, .null, .null, .null, .null, .null, .null, .null, .null, .null]
theorem dvX0 : ∀ B k, k < 11 → defaultValue (tyX0 k) = mv B (nwX0.getD k .null) := by
  intro B k hk
  match k, hk with
  | 0, _ => rfl
  | 1, _ => rfl
  | 2, _ => rfl
  | 3, _ => rfl
  | 4, _ => rfl
  | 5, _ => rfl
  | 6, _ => rfl
  | 7, _ => rfl
  | 8, _ => rfl
  | 9, _ => rfl
  | 10, _ => rfl
  | k + 11, h => exact absurd h (by omega)
abbrev nwX1 : List Value := [.null, .int 0]
theorem dvX1 : ∀ B k, k < 2 → defaultValue (tyX1 k) = mv B (nwX1.getD k .null) := by
  intro B k hk
  match k, hk with
  | 0, _ => rfl
  | 1, _ => rfl
  | k + 2, h => exact absurd h (by omega)
abbrev nwX3 : List Value := [.null]
theorem dvX3 : ∀ B k, k < 1 → defaultValue (tyX3 k) = mv B (nwX3.getD k .null) := by
  intro B k hk
  match k, hk with
  | 0, _ => rfl
  | k + 1, h => exact absurd h (by omega)
abbrev nwX4 : List Value := [.null, .int 0, .int 0, .int 0]
theorem dvX4 : ∀ B k, k < 4 → defaultValue (tyX4 k) = mv B (nwX4.getD k .null) := by
  intro B k hk
  match k, hk with
  | 0, _ => rfl
  | 1, _ => rfl
  | 2, _ => rfl
  | 3, _ => rfl
  | k + 4, h => exact absurd h (by omega)
abbrev nwX5 : List Value := [.null, .null, .null, .null, .null, .null, .null, .null, .null, .int 0]
theorem dvX5 : ∀ B k, k < 10 → defaultValue (tyX5 k) = mv B (nwX5.getD k .null) := by
  intro B k hk
  match k, hk with
  | 0, _ => rfl
  | 1, _ => rfl
  | 2, _ => rfl
  | 3, _ => rfl
  | 4, _ => rfl
  | 5, _ => rfl
  | 6, _ => rfl
  | 7, _ => rfl
  | 8, _ => rfl
  | 9, _ => rfl
  | k + 10, h => exact absurd h (by omega)
abbrev nwX6 : List Value := [.null, .null, .null, .null, .null, .int 0, .null, .null, .null, .null, .null, .null, .null, .null, .null, .null]
theorem dvX6 : ∀ B k, k < 16 → defaultValue (tyX6 k) = mv B (nwX6.getD k .null) := by
  intro B k hk
  match k, hk with
  | 0, _ => rfl
  | 1, _ => rfl
  | 2, _ => rfl
  | 3, _ => rfl
  | 4, _ => rfl
  | 5, _ => rfl
  | 6, _ => rfl
  | 7, _ => rfl
  | 8, _ => rfl
  | 9, _ => rfl
  | 10, _ => rfl
  | 11, _ => rfl
  | 12, _ => rfl
  | 13, _ => rfl
  | 14, _ => rfl
  | 15, _ => rfl
  | k + 16, h => exact absurd h (by omega)
theorem clL_7 : Cond.classLink RL 7 RX5 ∈ tblG := in_tbl 34 (by decide +kernel) rfl
theorem fnL_7 : Fn RL 7 4 nwX5 := ⟨_, rfl, clL_7, in_tbl 35 (by decide +kernel) rfl, in_tbl 24 (by decide +kernel) rfl, rfl, tyX5, tyX5_ok, dvX5⟩
theorem clX5_9 : Cond.classLink RX5 9 RX4 ∈ tblG := in_tbl 42 (by decide +kernel) rfl
theorem fnX5_9 : Fn RX5 9 3 nwX4 := ⟨_, rfl, clX5_9, in_tbl 113 (by decide +kernel) rfl, in_tbl 29 (by decide +kernel) rfl, rfl, tyX4, tyX4_ok, dvX4⟩
theorem clX5_15 : Cond.classLink RX5 15 RX1 ∈ tblG := in_tbl 44 (by decide +kernel) rfl
theorem fnX5_15 : Fn RX5 15 1 nwX1 := ⟨_, rfl, clX5_15, in_tbl 135 (by decide +kernel) rfl, in_tbl 30 (by decide +kernel) rfl, rfl, tyX1, tyX1_ok, dvX1⟩
theorem clX5_21 : Cond.classLink RX5 21 RX0 ∈ tblG := in_tbl 46 (by decide +kernel) rfl
theorem fnX5_21 : Fn RX5 21 0 nwX0 := ⟨_, rfl, clX5_21, in_tbl 47 (by decide +kernel) rfl, in_tbl 25 (by decide +kernel) rfl, rfl, tyX0, tyX0_ok, dvX0⟩
theorem clX0_21 : Cond.classLink RX0 21 ("[" ++ (FieldType.array .int).toString) ∈ tblG := in_tbl 52 (by decide +kernel) rfl
theorem clX0_32 : Cond.classLink RX0 32 RX3 ∈ tblG := in_tbl 54 (by decide +kernel) rfl
theorem fnX0_32 : Fn RX0 32 2 nwX3 := ⟨_, rfl, clX0_32, in_tbl 55 (by decide +kernel) rfl, in_tbl 26 (by decide +kernel) rfl, rfl, tyX3, tyX3_ok, dvX3⟩
theorem clX5_28 : Cond.classLink RX5 28 RX3 ∈ tblG := in_tbl 111 (by decide +kernel) rfl
theorem fnX5_28 : Fn RX5 28 2 nwX3 := ⟨_, rfl, clX5_28, in_tbl 55 (by decide +kernel) rfl, in_tbl 26 (by decide +kernel) rfl, rfl, tyX3, tyX3_ok, dvX3⟩
theorem clX1_9 : Cond.classLink RX1 9 RX3 ∈ tblG := in_tbl 140 (by decide +kernel) rfl
theorem fnX1_9 : Fn RX1 9 2 nwX3 := ⟨_, rfl, clX1_9, in_tbl 55 (by decide +kernel) rfl, in_tbl 26 (by decide +kernel) rfl, rfl, tyX3, tyX3_ok, dvX3⟩
theorem clL_10 : Cond.classLink RL 10 RX6 ∈ tblG := in_tbl 525 (by decide +kernel) rfl
theorem fnL_10 : Fn RL 10 5 nwX6 := ⟨_, rfl, clL_10, in_tbl 526 (by decide +kernel) rfl, in_tbl 31 (by decide +kernel) rfl, rfl, tyX6, tyX6_ok, dvX6⟩
theorem liL_9 : LkI RL 9 yX5_init cX5_init 2 := ⟨in_tbl 36 (by decide +kernel) rfl, in_tbl 37 (by decide +kernel) rfl, in_tbl 24 (by decide +kernel) rfl, in_tbl 38 (by decide +kernel) rfl, rfl, by decide +kernel, by decide +kernel, by decide +kernel⟩
theorem oiX5 : Cond.methodLink RX5 3 objectInit ∈ tblG := in_tbl 39 (by decide +kernel) rfl
theorem aoX4 : Cond.arrayOver (.object RX4) ∈ lw_tbl := List.mem_of_getElem? (i := 43) (by decide +kernel)
theorem aoX1 : Cond.arrayOver (.object RX1) ∈ lw_tbl := List.mem_of_getElem? (i := 45) (by decide +kernel)
theorem liX5_23 : LkI RX5 23 yX0_init cX0_init 3 := ⟨in_tbl 48 (by decide +kernel) rfl, in_tbl 49 (by decide +kernel) rfl, in_tbl 25 (by decide +kernel) rfl, in_tbl 50 (by decide +kernel) rfl, rfl, by decide +kernel, by decide +kernel, by decide +kernel⟩
theorem oiX0 : Cond.methodLink RX0 3 objectInit ∈ tblG := in_tbl 51 (by decide +kernel) rfl
theorem lnX0_34 : LkN RX0 34 yX3_init cX3_init 1 := ⟨⟨"DeltaLadders", List.mem_of_getElem? (i := 56) (by decide +kernel)⟩, in_tbl 57 (by decide +kernel) rfl, in_tbl 26 (by decide +kernel) rfl, in_tbl 58 (by decide +kernel) rfl, rfl, by decide +kernel, by decide +kernel, by decide +kernel⟩
theorem oiX3 : Cond.methodLink RX3 3 objectInit ∈ tblG := in_tbl 59 (by decide +kernel) rfl
theorem lnX5_30 : LkN RX5 30 yX3_init cX3_init 1 := ⟨⟨"DeltaLadders", List.mem_of_getElem? (i := 112) (by decide +kernel)⟩, in_tbl 57 (by decide +kernel) rfl, in_tbl 26 (by decide +kernel) rfl, in_tbl 58 (by decide +kernel) rfl, rfl, by decide +kernel, by decide +kernel, by decide +kernel⟩
theorem lnX5_54 : LkN RX5 54 yX4_init cX4_init 1 := ⟨⟨"DeltaLadders", List.mem_of_getElem? (i := 114) (by decide +kernel)⟩, in_tbl 115 (by decide +kernel) rfl, in_tbl 29 (by decide +kernel) rfl, in_tbl 116 (by decide +kernel) rfl, rfl, by decide +kernel, by decide +kernel, by decide +kernel⟩
theorem oiX4 : Cond.methodLink RX4 3 objectInit ∈ tblG := in_tbl 117 (by decide +kernel) rfl
theorem liX5_55 : LkI RX5 55 yX1_init cX1_init 2 := ⟨in_tbl 136 (by decide +kernel) rfl, in_tbl 137 (by decide +kernel) rfl, in_tbl 30 (by decide +kernel) rfl, in_tbl 138 (by decide +kernel) rfl, rfl, by decide +kernel, by decide +kernel, by decide +kernel⟩
theorem oiX1 : Cond.methodLink RX1 3 objectInit ∈ tblG := in_tbl 139 (by decide +kernel) rfl
theorem aoX3 : Cond.arrayOver (.object RX3) ∈ lw_tbl := List.mem_of_getElem? (i := 141) (by decide +kernel)
theorem lnX1_21 : LkN RX1 21 yX3_init cX3_init 1 := ⟨⟨"DeltaLadders", List.mem_of_getElem? (i := 142) (by decide +kernel)⟩, in_tbl 57 (by decide +kernel) rfl, in_tbl 26 (by decide +kernel) rfl, in_tbl 58 (by decide +kernel) rfl, rfl, by decide +kernel, by decide +kernel, by decide +kernel⟩
theorem liL_12 : LkI RL 12 yX6_init cX6_init 1 := ⟨in_tbl 527 (by decide +kernel) rfl, in_tbl 528 (by decide +kernel) rfl, in_tbl 31 (by decide +kernel) rfl, in_tbl 529 (by decide +kernel) rfl, rfl, by decide +kernel, by decide +kernel, by decide +kernel⟩
theorem oiX6 : Cond.methodLink RX6 1 objectInit ∈ tblG := in_tbl 530 (by decide +kernel) rfl
