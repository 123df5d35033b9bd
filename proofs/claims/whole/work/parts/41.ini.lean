theorem okX0_init : e_okI mX0_init := ⟨⟨(e_bg (e_in1 92 rfl) rfl), (e_bg (e_in1 5 rfl) rfl), ⟨by decide +kernel, by decide +kernel, by decide +kernel⟩, ⟨by decide, by decide⟩, by decide +kernel⟩, ⟨rfl, rfl⟩, (e_bg (e_in1 91 rfl) rfl)⟩
theorem clXX7_33 : e_cli RX7 33 0 3 := ⟨(RX0, TX0, 3), rfl, rfl, (e_bg (e_in1 88 rfl) rfl), (e_bg (e_in1 89 rfl) rfl), (e_bg (e_in1 5 rfl) rfl)⟩
theorem obX0 : Cond.methodLink RX0 3 Lib.objectInit ∈ e_big := (e_bg (e_in1 93 rfl) rfl)
def z0 : List Value := [.null, .int 0, .int 0]
theorem dfX0 : e_dfs 0 z0 := by
  refine ⟨(RX0, TX0, 3), rfl, ?_, rfl⟩
  intro j hj ty h
  have h : some (tyX0 j) = some ty := (tyX0_ok j hj).symm.trans h
  cases h
  have hj : j < 3 := hj
  match j, hj with
  | 0, _ => rfl
  | 1, _ => rfl
  | 2, _ => rfl
  | j + 3, h => exact absurd h (by omega)
theorem okX1_init : e_okI mX1_init := ⟨⟨(e_bg (e_in1 39 rfl) rfl), (e_bg (e_in1 3 rfl) rfl), ⟨by decide +kernel, by decide +kernel, by decide +kernel⟩, ⟨by decide, by decide⟩, by decide +kernel⟩, ⟨rfl, rfl⟩, (e_bg (e_in1 38 rfl) rfl)⟩
theorem clXX7_16 : e_cli RX7 16 1 5 := ⟨(RX1, TX1, 5), rfl, rfl, (e_bg (e_in1 35 rfl) rfl), (e_bg (e_in1 36 rfl) rfl), (e_bg (e_in1 3 rfl) rfl)⟩
theorem obX1 : Cond.methodLink RX1 3 Lib.objectInit ∈ e_big := (e_bg (e_in1 40 rfl) rfl)
def z1 : List Value := [.null, .null, .null, .null, .int 0]
theorem dfX1 : e_dfs 1 z1 := by
  refine ⟨(RX1, TX1, 5), rfl, ?_, rfl⟩
  intro j hj ty h
  have h : some (tyX1 j) = some ty := (tyX1_ok j hj).symm.trans h
  cases h
  have hj : j < 5 := hj
  match j, hj with
  | 0, _ => rfl
  | 1, _ => rfl
  | 2, _ => rfl
  | 3, _ => rfl
  | 4, _ => rfl
  | j + 5, h => exact absurd h (by omega)
theorem okX2_init : e_okI mX2_init := ⟨⟨(e_bg (e_in1 112 rfl) rfl), (e_bg (e_in1 6 rfl) rfl), ⟨by decide +kernel, by decide +kernel, by decide +kernel⟩, ⟨by decide, by decide⟩, by decide +kernel⟩, ⟨rfl, rfl⟩, (e_bg (e_in1 111 rfl) rfl)⟩
theorem clXX7_40 : e_cli RX7 40 2 4 := ⟨(RX2, TX2, 4), rfl, rfl, (e_bg (e_in1 108 rfl) rfl), (e_bg (e_in1 109 rfl) rfl), (e_bg (e_in1 6 rfl) rfl)⟩
theorem obX2 : Cond.methodLink RX2 3 Lib.objectInit ∈ e_big := (e_bg (e_in1 113 rfl) rfl)
def z2 : List Value := [.null, .null, .null, .int 0]
theorem dfX2 : e_dfs 2 z2 := by
  refine ⟨(RX2, TX2, 4), rfl, ?_, rfl⟩
  intro j hj ty h
  have h : some (tyX2 j) = some ty := (tyX2_ok j hj).symm.trans h
  cases h
  have hj : j < 4 := hj
  match j, hj with
  | 0, _ => rfl
  | 1, _ => rfl
  | 2, _ => rfl
  | 3, _ => rfl
  | j + 4, h => exact absurd h (by omega)
theorem okX3_init : e_okI mX3_init := ⟨⟨(e_bg (e_in1 62 rfl) rfl), (e_bg (e_in1 4 rfl) rfl), ⟨by decide +kernel, by decide +kernel, by decide +kernel⟩, ⟨by decide, by decide⟩, by decide +kernel⟩, ⟨rfl, rfl⟩, (e_bg (e_in1 61 rfl) rfl)⟩
theorem clXX7_23 : e_cli RX7 23 3 3 := ⟨(RX3, TX3, 3), rfl, rfl, (e_bg (e_in1 58 rfl) rfl), (e_bg (e_in1 59 rfl) rfl), (e_bg (e_in1 4 rfl) rfl)⟩
theorem cwXX7_23 : Cond.classLink RX7 23 RX3 ∈ e_big := (e_bg (e_in1 58 rfl) rfl)
theorem obX3 : Cond.methodLink RX3 3 Lib.objectInit ∈ e_big := (e_bg (e_in1 63 rfl) rfl)
theorem clXX0_9 : e_cli RX0 9 3 3 := ⟨(RX3, TX3, 3), rfl, rfl, (e_bg (e_in1 94 rfl) rfl), (e_bg (e_in1 59 rfl) rfl), (e_bg (e_in1 4 rfl) rfl)⟩
theorem cwXX0_9 : Cond.classLink RX0 9 RX3 ∈ e_big := (e_bg (e_in1 94 rfl) rfl)
theorem clXX4_9 : e_cli RX4 9 3 3 := ⟨(RX3, TX3, 3), rfl, rfl, (e_bg (e_in1 134 rfl) rfl), (e_bg (e_in1 59 rfl) rfl), (e_bg (e_in1 4 rfl) rfl)⟩
theorem cwXX4_9 : Cond.classLink RX4 9 RX3 ∈ e_big := (e_bg (e_in1 134 rfl) rfl)
def z3 : List Value := [.null, .null, .int 0]
theorem dfX3 : e_dfs 3 z3 := by
  refine ⟨(RX3, TX3, 3), rfl, ?_, rfl⟩
  intro j hj ty h
  have h : some (tyX3 j) = some ty := (tyX3_ok j hj).symm.trans h
  cases h
  have hj : j < 3 := hj
  match j, hj with
  | 0, _ => rfl
  | 1, _ => rfl
  | 2, _ => rfl
  | j + 3, h => exact absurd h (by omega)
theorem okX4_init : e_okI mX4_init := ⟨⟨(e_bg (e_in1 132 rfl) rfl), (e_bg (e_in1 7 rfl) rfl), ⟨by decide +kernel, by decide +kernel, by decide +kernel⟩, ⟨by decide, by decide⟩, by decide +kernel⟩, ⟨rfl, rfl⟩, (e_bg (e_in1 131 rfl) rfl)⟩
theorem clXX7_47 : e_cli RX7 47 4 2 := ⟨(RX4, TX4, 2), rfl, rfl, (e_bg (e_in1 128 rfl) rfl), (e_bg (e_in1 129 rfl) rfl), (e_bg (e_in1 7 rfl) rfl)⟩
theorem obX4 : Cond.methodLink RX4 3 Lib.objectInit ∈ e_big := (e_bg (e_in1 133 rfl) rfl)
def z4 : List Value := [.null, .int 0]
theorem dfX4 : e_dfs 4 z4 := by
  refine ⟨(RX4, TX4, 2), rfl, ?_, rfl⟩
  intro j hj ty h
  have h : some (tyX4 j) = some ty := (tyX4_ok j hj).symm.trans h
  cases h
  have hj : j < 2 := hj
  match j, hj with
  | 0, _ => rfl
  | 1, _ => rfl
  | j + 2, h => exact absurd h (by omega)
theorem okX5_init : e_okI mX5_init := ⟨⟨(e_bg (e_in1 24 rfl) rfl), (e_bg (e_in1 2 rfl) rfl), ⟨by decide +kernel, by decide +kernel, by decide +kernel⟩, ⟨by decide, by decide⟩, by decide +kernel⟩, ⟨rfl, rfl⟩, (e_bg (e_in1 23 rfl) rfl)⟩
theorem clXX7_7 : e_cli RX7 7 5 2 := ⟨(RX5, TX5, 2), rfl, rfl, (e_bg (e_in1 20 rfl) rfl), (e_bg (e_in1 21 rfl) rfl), (e_bg (e_in1 2 rfl) rfl)⟩
theorem obX5 : Cond.methodLink RX5 3 Lib.objectInit ∈ e_big := (e_bg (e_in1 25 rfl) rfl)
def z5 : List Value := [.null, .int 0]
theorem dfX5 : e_dfs 5 z5 := by
  refine ⟨(RX5, TX5, 2), rfl, ?_, rfl⟩
  intro j hj ty h
  have h : some (tyX5 j) = some ty := (tyX5_ok j hj).symm.trans h
  cases h
  have hj : j < 2 := hj
  match j, hj with
  | 0, _ => rfl
  | 1, _ => rfl
  | j + 2, h => exact absurd h (by omega)
theorem okX6_init : e_okI mX6_init := ⟨⟨(e_bg (e_in1 147 rfl) rfl), (e_bg (e_in1 8 rfl) rfl), ⟨by decide +kernel, by decide +kernel, by decide +kernel⟩, ⟨by decide, by decide⟩, by decide +kernel⟩, ⟨rfl, rfl⟩, (e_bg (e_in1 146 rfl) rfl)⟩
theorem clXX7_54 : e_cli RX7 54 6 1 := ⟨(RX6, TX6, 1), rfl, rfl, (e_bg (e_in1 143 rfl) rfl), (e_bg (e_in1 144 rfl) rfl), (e_bg (e_in1 8 rfl) rfl)⟩
theorem obX6 : Cond.methodLink RX6 3 Lib.objectInit ∈ e_big := (e_bg (e_in1 148 rfl) rfl)
def z6 : List Value := [.null]
theorem dfX6 : e_dfs 6 z6 := by
  refine ⟨(RX6, TX6, 1), rfl, ?_, rfl⟩
  intro j hj ty h
  have h : some (tyX6 j) = some ty := (tyX6_ok j hj).symm.trans h
  cases h
  have hj : j < 1 := hj
  match j, hj with
  | 0, _ => rfl
  | j + 1, h => exact absurd h (by omega)
theorem okX7_init : e_okI mX7_init := ⟨⟨(e_bg (e_in1 16 rfl) rfl), (e_bg (e_in1 1 rfl) rfl), ⟨by decide +kernel, by decide +kernel, by decide +kernel⟩, ⟨by decide, by decide⟩, by decide +kernel⟩, ⟨rfl, rfl⟩, (e_bg (e_in1 15 rfl) rfl)⟩
theorem clXL_7 : e_cli RL 7 7 9 := ⟨(RX7, TX7, 9), rfl, rfl, (e_bg (e_in1 12 rfl) rfl), (e_bg (e_in1 13 rfl) rfl), (e_bg (e_in1 1 rfl) rfl)⟩
theorem obX7 : Cond.methodLink RX7 1 Lib.objectInit ∈ e_big := (e_bg (e_in1 17 rfl) rfl)
def z7 : List Value := [.null, .null, .null, .null, .null, .null, .null, .null, .long 0]
theorem dfX7 : e_dfs 7 z7 := by
  refine ⟨(RX7, TX7, 9), rfl, ?_, rfl⟩
  intro j hj ty h
  have h : some (tyX7 j) = some ty := (tyX7_ok j hj).symm.trans h
  cases h
  have hj : j < 9 := hj
  match j, hj with
  | 0, _ => rfl
  | 1, _ => rfl
  | 2, _ => rfl
  | 3, _ => rfl
  | 4, _ => rfl
  | 5, _ => rfl
  | 6, _ => rfl
  | 7, _ => rfl
  | 8, _ => rfl
  | j + 9, h => exact absurd h (by omega)
theorem okX8_init : e_okI mX8_init := ⟨⟨(e_bg (e_in3 82 rfl) rfl), (e_bg (e_in1 9 rfl) rfl), ⟨by decide +kernel, by decide +kernel, by decide +kernel⟩, ⟨by decide, by decide⟩, by decide +kernel⟩, ⟨rfl, rfl⟩, (e_bg (e_in3 81 rfl) rfl)⟩
theorem clXL_10 : e_cli RL 10 8 27 := ⟨(RX8, TX8, 27), rfl, rfl, (e_bg (e_in3 78 rfl) rfl), (e_bg (e_in3 79 rfl) rfl), (e_bg (e_in1 9 rfl) rfl)⟩
theorem obX8 : Cond.methodLink RX8 1 Lib.objectInit ∈ e_big := (e_bg (e_in3 83 rfl) rfl)
def z8 : List Value := [.int 0, .null, .int 0, .int 0, .int 0, .null, .null, .null, .null, .int 0, .null, .null, .null, .null, .int 0, .null, .null, .int 0, .null, .null, .long 0, .int 0, .int 0, .int 0, .int 0, .null, .null]
theorem dfX8 : e_dfs 8 z8 := by
  refine ⟨(RX8, TX8, 27), rfl, ?_, rfl⟩
  intro j hj ty h
  have h : some (tyX8 j) = some ty := (tyX8_ok j hj).symm.trans h
  cases h
  have hj : j < 27 := hj
  match j, hj with
  | 0, _ => rfl
  | 1, _ => rfl
  | 2, _ => rfl
  | 3, _ => rfl
  | 4, _ => rfl
  | 5, _ => rfl
  | 6, _ => rfl
  | 7, _ => rfl
  | 8, _ => rfl
  | 9, _ => rfl
  | 10, _ => rfl
  | 11, _ => rfl
  | 12, _ => rfl
  | 13, _ => rfl
  | 14, _ => rfl
  | 15, _ => rfl
  | 16, _ => rfl
  | 17, _ => rfl
  | 18, _ => rfl
  | 19, _ => rfl
  | 20, _ => rfl
  | 21, _ => rfl
  | 22, _ => rfl
  | 23, _ => rfl
  | 24, _ => rfl
  | 25, _ => rfl
  | 26, _ => rfl
  | j + 27, h => exact absurd h (by omega)
theorem ob_i : Cond.instanceMethod Lib.objectInit ∈ e_big := (e_bg (e_in1 18 rfl) rfl)
theorem ob_c : Cond.code Lib.objectInit ⟨#[0xb1]⟩ 1 none ∈ e_big := (e_bg (e_in1 19 rfl) rfl)
theorem ac_i : Cond.arrayClass .int ∈ e_big := (e_bg (e_in1 34 rfl) rfl)
theorem ac_z : Cond.arrayClass .boolean ∈ e_big := (e_bg (e_in3 169 rfl) rfl)
theorem ao_s : Cond.arrayOver (.object RX3) ∈ lw_tbl := (e_in1 95 rfl)
theorem pfX5_9 : e_fin RX5 9 5 0 := ⟨(RX5, TX5, 2), (.array .int), rfl, by decide, (e_bg (e_in1 26 rfl) rfl), rfl, rfl, by decide +kernel, fun _ => rfl, fun _ => rfl⟩
theorem pfX1_9 : e_fin RX1 9 1 0 := ⟨(RX1, TX1, 5), (.array .int), rfl, by decide, (e_bg (e_in1 41 rfl) rfl), rfl, rfl, by decide +kernel, fun _ => rfl, fun _ => rfl⟩
theorem pfX1_15 : e_fin RX1 15 1 1 := ⟨(RX1, TX1, 5), (.array .int), rfl, by decide, (e_bg (e_in1 42 rfl) rfl), rfl, rfl, by decide +kernel, fun _ => rfl, fun _ => rfl⟩
theorem pfX1_18 : e_fin RX1 18 1 2 := ⟨(RX1, TX1, 5), (.array .int), rfl, by decide, (e_bg (e_in1 43 rfl) rfl), rfl, rfl, by decide +kernel, fun _ => rfl, fun _ => rfl⟩
theorem pfX1_21 : e_fin RX1 21 1 3 := ⟨(RX1, TX1, 5), (.array .int), rfl, by decide, (e_bg (e_in1 44 rfl) rfl), rfl, rfl, by decide +kernel, fun _ => rfl, fun _ => rfl⟩
theorem pfX3_9 : e_fin RX3 9 3 0 := ⟨(RX3, TX3, 3), (.array .int), rfl, by decide, (e_bg (e_in1 75 rfl) rfl), rfl, rfl, by decide +kernel, fun _ => rfl, fun _ => rfl⟩
theorem pfX3_15 : e_fin RX3 15 3 1 := ⟨(RX3, TX3, 3), (.array .int), rfl, by decide, (e_bg (e_in1 77 rfl) rfl), rfl, rfl, by decide +kernel, fun _ => rfl, fun _ => rfl⟩
theorem pfX0_11 : e_fin RX0 11 0 0 := ⟨(RX0, TX0, 3), (.array (.object RX3)), rfl, by decide, (e_bg (e_in1 97 rfl) rfl), rfl, rfl, by decide +kernel, fun _ => rfl, fun _ => rfl⟩
theorem pfX2_9 : e_fin RX2 9 2 0 := ⟨(RX2, TX2, 4), (.array .int), rfl, by decide, (e_bg (e_in1 114 rfl) rfl), rfl, rfl, by decide +kernel, fun _ => rfl, fun _ => rfl⟩
theorem pfX2_15 : e_fin RX2 15 2 1 := ⟨(RX2, TX2, 4), (.array .int), rfl, by decide, (e_bg (e_in1 115 rfl) rfl), rfl, rfl, by decide +kernel, fun _ => rfl, fun _ => rfl⟩
theorem pfX2_18 : e_fin RX2 18 2 2 := ⟨(RX2, TX2, 4), (.array .int), rfl, by decide, (e_bg (e_in1 116 rfl) rfl), rfl, rfl, by decide +kernel, fun _ => rfl, fun _ => rfl⟩
theorem pfX4_11 : e_fin RX4 11 4 0 := ⟨(RX4, TX4, 2), (.array (.object RX3)), rfl, by decide, (e_bg (e_in1 136 rfl) rfl), rfl, rfl, by decide +kernel, fun _ => rfl, fun _ => rfl⟩
theorem pfX6_9 : e_fin RX6 9 6 0 := ⟨(RX6, TX6, 1), (.array .int), rfl, by decide, (e_bg (e_in1 149 rfl) rfl), rfl, rfl, by decide +kernel, fun _ => rfl, fun _ => rfl⟩
theorem pfX7_10 : e_fin RX7 10 7 0 := ⟨(RX7, TX7, 9), (.object RX5), rfl, by decide, (e_bg (e_in1 153 rfl) rfl), rfl, rfl, by decide +kernel, fun _ => rfl, fun _ => rfl⟩
theorem pfX7_19 : e_fin RX7 19 7 1 := ⟨(RX7, TX7, 9), (.object RX1), rfl, by decide, (e_bg (e_in1 154 rfl) rfl), rfl, rfl, by decide +kernel, fun _ => rfl, fun _ => rfl⟩
theorem pfX7_26 : e_fin RX7 26 7 2 := ⟨(RX7, TX7, 9), (.object RX3), rfl, by decide, (e_bg (e_in1 155 rfl) rfl), rfl, rfl, by decide +kernel, fun _ => rfl, fun _ => rfl⟩
theorem pfX7_30 : e_fin RX7 30 7 3 := ⟨(RX7, TX7, 9), (.object RX3), rfl, by decide, (e_bg (e_in1 156 rfl) rfl), rfl, rfl, by decide +kernel, fun _ => rfl, fun _ => rfl⟩
theorem pfX7_36 : e_fin RX7 36 7 4 := ⟨(RX7, TX7, 9), (.object RX0), rfl, by decide, (e_bg (e_in1 157 rfl) rfl), rfl, rfl, by decide +kernel, fun _ => rfl, fun _ => rfl⟩
theorem pfX7_43 : e_fin RX7 43 7 5 := ⟨(RX7, TX7, 9), (.object RX2), rfl, by decide, (e_bg (e_in1 158 rfl) rfl), rfl, rfl, by decide +kernel, fun _ => rfl, fun _ => rfl⟩
theorem pfX7_50 : e_fin RX7 50 7 6 := ⟨(RX7, TX7, 9), (.object RX4), rfl, by decide, (e_bg (e_in1 159 rfl) rfl), rfl, rfl, by decide +kernel, fun _ => rfl, fun _ => rfl⟩
theorem pfX7_57 : e_fin RX7 57 7 7 := ⟨(RX7, TX7, 9), (.object RX6), rfl, by decide, (e_bg (e_in1 160 rfl) rfl), rfl, rfl, by decide +kernel, fun _ => rfl, fun _ => rfl⟩
theorem pfX8_7 : e_fin RX8 7 8 1 := ⟨(RX8, TX8, 27), (.array .int), rfl, by decide, (e_bg (e_in3 88 rfl) rfl), rfl, rfl, by decide +kernel, fun _ => rfl, fun _ => rfl⟩
theorem pfX8_13 : e_fin RX8 13 8 5 := ⟨(RX8, TX8, 27), (.array .int), rfl, by decide, (e_bg (e_in3 92 rfl) rfl), rfl, rfl, by decide +kernel, fun _ => rfl, fun _ => rfl⟩
theorem pfX8_16 : e_fin RX8 16 8 6 := ⟨(RX8, TX8, 27), (.array .int), rfl, by decide, (e_bg (e_in3 93 rfl) rfl), rfl, rfl, by decide +kernel, fun _ => rfl, fun _ => rfl⟩
theorem pfX8_19 : e_fin RX8 19 8 7 := ⟨(RX8, TX8, 27), (.array .int), rfl, by decide, (e_bg (e_in3 94 rfl) rfl), rfl, rfl, by decide +kernel, fun _ => rfl, fun _ => rfl⟩
theorem pfX8_22 : e_fin RX8 22 8 8 := ⟨(RX8, TX8, 27), (.array .int), rfl, by decide, (e_bg (e_in3 95 rfl) rfl), rfl, rfl, by decide +kernel, fun _ => rfl, fun _ => rfl⟩
theorem pfX8_25 : e_fin RX8 25 8 10 := ⟨(RX8, TX8, 27), (.array .int), rfl, by decide, (e_bg (e_in3 97 rfl) rfl), rfl, rfl, by decide +kernel, fun _ => rfl, fun _ => rfl⟩
theorem pfX8_28 : e_fin RX8 28 8 11 := ⟨(RX8, TX8, 27), (.array .int), rfl, by decide, (e_bg (e_in3 98 rfl) rfl), rfl, rfl, by decide +kernel, fun _ => rfl, fun _ => rfl⟩
theorem pfX8_31 : e_fin RX8 31 8 12 := ⟨(RX8, TX8, 27), (.array .int), rfl, by decide, (e_bg (e_in3 99 rfl) rfl), rfl, rfl, by decide +kernel, fun _ => rfl, fun _ => rfl⟩
theorem pfX8_34 : e_fin RX8 34 8 13 := ⟨(RX8, TX8, 27), (.array .int), rfl, by decide, (e_bg (e_in3 100 rfl) rfl), rfl, rfl, by decide +kernel, fun _ => rfl, fun _ => rfl⟩
theorem pfX8_37 : e_fin RX8 37 8 15 := ⟨(RX8, TX8, 27), (.array .int), rfl, by decide, (e_bg (e_in3 102 rfl) rfl), rfl, rfl, by decide +kernel, fun _ => rfl, fun _ => rfl⟩
theorem pfX8_40 : e_fin RX8 40 8 16 := ⟨(RX8, TX8, 27), (.array .boolean), rfl, by decide, (e_bg (e_in3 103 rfl) rfl), rfl, rfl, by decide +kernel, fun _ => rfl, fun _ => rfl⟩
theorem pfX8_44 : e_fin RX8 44 8 18 := ⟨(RX8, TX8, 27), (.array .int), rfl, by decide, (e_bg (e_in3 105 rfl) rfl), rfl, rfl, by decide +kernel, fun _ => rfl, fun _ => rfl⟩
theorem pfX8_47 : e_fin RX8 47 8 19 := ⟨(RX8, TX8, 27), (.array .int), rfl, by decide, (e_bg (e_in3 106 rfl) rfl), rfl, rfl, by decide +kernel, fun _ => rfl, fun _ => rfl⟩
theorem pfX8_50 : e_fin RX8 50 8 25 := ⟨(RX8, TX8, 27), (.array .int), rfl, by decide, (e_bg (e_in3 112 rfl) rfl), rfl, rfl, by decide +kernel, fun _ => rfl, fun _ => rfl⟩
theorem pfX8_53 : e_fin RX8 53 8 26 := ⟨(RX8, TX8, 27), (.array .int), rfl, by decide, (e_bg (e_in3 113 rfl) rfl), rfl, rfl, by decide +kernel, fun _ => rfl, fun _ => rfl⟩
