theorem ic_m1 : Int32.ofInt (-1) = (-1 : Int32) := by decide
theorem ic_0 : Int32.ofInt (0) = (0 : Int32) := by decide
theorem ic_0n : Int32.ofInt (0) = nI 0 := by decide
theorem ic_1 : Int32.ofInt (1) = (1 : Int32) := by decide
theorem ic_1n : Int32.ofInt (1) = nI 1 := by decide
theorem ic_2 : Int32.ofInt (2) = (2 : Int32) := by decide
theorem ic_2n : Int32.ofInt (2) = nI 2 := by decide
theorem ic_3 : Int32.ofInt (3) = (3 : Int32) := by decide
theorem ic_3n : Int32.ofInt (3) = nI 3 := by decide
theorem ic_4 : Int32.ofInt (4) = (4 : Int32) := by decide
theorem ic_4n : Int32.ofInt (4) = nI 4 := by decide
theorem ic_5 : Int32.ofInt (5) = (5 : Int32) := by decide
theorem ic_5n : Int32.ofInt (5) = nI 5 := by decide
theorem bp_m6 : (Int8.ofInt (-6)).toInt32 = (-6 : Int32) := by decide
theorem bp_m5 : (Int8.ofInt (-5)).toInt32 = (-5 : Int32) := by decide
theorem bp_m4 : (Int8.ofInt (-4)).toInt32 = (-4 : Int32) := by decide
theorem bp_m3 : (Int8.ofInt (-3)).toInt32 = (-3 : Int32) := by decide
theorem bp_m2 : (Int8.ofInt (-2)).toInt32 = (-2 : Int32) := by decide
theorem bp_6 : (Int8.ofInt (6)).toInt32 = (6 : Int32) := by decide
theorem bp_6n : (Int8.ofInt (6)).toInt32 = nI 6 := by decide
theorem bp_7 : (Int8.ofInt (7)).toInt32 = (7 : Int32) := by decide
theorem bp_7n : (Int8.ofInt (7)).toInt32 = nI 7 := by decide
theorem bp_8 : (Int8.ofInt (8)).toInt32 = (8 : Int32) := by decide
theorem bp_8n : (Int8.ofInt (8)).toInt32 = nI 8 := by decide
theorem bp_9 : (Int8.ofInt (9)).toInt32 = (9 : Int32) := by decide
theorem bp_9n : (Int8.ofInt (9)).toInt32 = nI 9 := by decide
theorem bp_10 : (Int8.ofInt (10)).toInt32 = (10 : Int32) := by decide
theorem bp_10n : (Int8.ofInt (10)).toInt32 = nI 10 := by decide
theorem bp_12 : (Int8.ofInt (12)).toInt32 = (12 : Int32) := by decide
theorem bp_12n : (Int8.ofInt (12)).toInt32 = nI 12 := by decide
theorem bp_13 : (Int8.ofInt (13)).toInt32 = (13 : Int32) := by decide
theorem bp_13n : (Int8.ofInt (13)).toInt32 = nI 13 := by decide
theorem bp_14 : (Int8.ofInt (14)).toInt32 = (14 : Int32) := by decide
theorem bp_14n : (Int8.ofInt (14)).toInt32 = nI 14 := by decide
theorem bp_15 : (Int8.ofInt (15)).toInt32 = (15 : Int32) := by decide
theorem bp_15n : (Int8.ofInt (15)).toInt32 = nI 15 := by decide
theorem bp_16 : (Int8.ofInt (16)).toInt32 = (16 : Int32) := by decide
theorem bp_16n : (Int8.ofInt (16)).toInt32 = nI 16 := by decide
theorem bp_17 : (Int8.ofInt (17)).toInt32 = (17 : Int32) := by decide
theorem bp_17n : (Int8.ofInt (17)).toInt32 = nI 17 := by decide
theorem bp_18 : (Int8.ofInt (18)).toInt32 = (18 : Int32) := by decide
theorem bp_18n : (Int8.ofInt (18)).toInt32 = nI 18 := by decide
theorem bp_19 : (Int8.ofInt (19)).toInt32 = (19 : Int32) := by decide
theorem bp_19n : (Int8.ofInt (19)).toInt32 = nI 19 := by decide
theorem bp_20 : (Int8.ofInt (20)).toInt32 = (20 : Int32) := by decide
theorem bp_20n : (Int8.ofInt (20)).toInt32 = nI 20 := by decide
theorem bp_25 : (Int8.ofInt (25)).toInt32 = (25 : Int32) := by decide
theorem bp_25n : (Int8.ofInt (25)).toInt32 = nI 25 := by decide
theorem bp_30 : (Int8.ofInt (30)).toInt32 = (30 : Int32) := by decide
theorem bp_30n : (Int8.ofInt (30)).toInt32 = nI 30 := by decide
theorem bp_32 : (Int8.ofInt (32)).toInt32 = (32 : Int32) := by decide
theorem bp_32n : (Int8.ofInt (32)).toInt32 = nI 32 := by decide
theorem bp_40 : (Int8.ofInt (40)).toInt32 = (40 : Int32) := by decide
theorem bp_40n : (Int8.ofInt (40)).toInt32 = nI 40 := by decide
theorem bp_43 : (Int8.ofInt (43)).toInt32 = (43 : Int32) := by decide
theorem bp_43n : (Int8.ofInt (43)).toInt32 = nI 43 := by decide
theorem bp_48 : (Int8.ofInt (48)).toInt32 = (48 : Int32) := by decide
theorem bp_48n : (Int8.ofInt (48)).toInt32 = nI 48 := by decide
theorem bp_57 : (Int8.ofInt (57)).toInt32 = (57 : Int32) := by decide
theorem bp_57n : (Int8.ofInt (57)).toInt32 = nI 57 := by decide
theorem bp_59 : (Int8.ofInt (59)).toInt32 = (59 : Int32) := by decide
theorem bp_59n : (Int8.ofInt (59)).toInt32 = nI 59 := by decide
theorem bp_64 : (Int8.ofInt (64)).toInt32 = (64 : Int32) := by decide
theorem bp_64n : (Int8.ofInt (64)).toInt32 = nI 64 := by decide
theorem bp_80 : (Int8.ofInt (80)).toInt32 = (80 : Int32) := by decide
theorem bp_80n : (Int8.ofInt (80)).toInt32 = nI 80 := by decide
theorem bp_99 : (Int8.ofInt (99)).toInt32 = (99 : Int32) := by decide
theorem bp_99n : (Int8.ofInt (99)).toInt32 = nI 99 := by decide
theorem bp_100 : (Int8.ofInt (100)).toInt32 = (100 : Int32) := by decide
theorem bp_100n : (Int8.ofInt (100)).toInt32 = nI 100 := by decide
theorem bp_104 : (Int8.ofInt (104)).toInt32 = (104 : Int32) := by decide
theorem bp_104n : (Int8.ofInt (104)).toInt32 = nI 104 := by decide
theorem bp_108 : (Int8.ofInt (108)).toInt32 = (108 : Int32) := by decide
theorem bp_108n : (Int8.ofInt (108)).toInt32 = nI 108 := by decide
theorem bp_109 : (Int8.ofInt (109)).toInt32 = (109 : Int32) := by decide
theorem bp_109n : (Int8.ofInt (109)).toInt32 = nI 109 := by decide
theorem bp_111 : (Int8.ofInt (111)).toInt32 = (111 : Int32) := by decide
theorem bp_111n : (Int8.ofInt (111)).toInt32 = nI 111 := by decide
theorem bp_116 : (Int8.ofInt (116)).toInt32 = (116 : Int32) := by decide
theorem bp_116n : (Int8.ofInt (116)).toInt32 = nI 116 := by decide
theorem bp_126 : (Int8.ofInt (126)).toInt32 = (126 : Int32) := by decide
theorem bp_126n : (Int8.ofInt (126)).toInt32 = nI 126 := by decide
theorem sp_128 : (Int16.ofInt (128)).toInt32 = (128 : Int32) := by decide
theorem sp_128n : (Int16.ofInt (128)).toInt32 = nI 128 := by decide
theorem sp_600 : (Int16.ofInt (600)).toInt32 = (600 : Int32) := by decide
theorem sp_600n : (Int16.ofInt (600)).toInt32 = nI 600 := by decide
theorem sp_601 : (Int16.ofInt (601)).toInt32 = (601 : Int32) := by decide
theorem sp_601n : (Int16.ofInt (601)).toInt32 = nI 601 := by decide
theorem sp_900 : (Int16.ofInt (900)).toInt32 = (900 : Int32) := by decide
theorem sp_900n : (Int16.ofInt (900)).toInt32 = nI 900 := by decide
theorem sp_1500 : (Int16.ofInt (1500)).toInt32 = (1500 : Int32) := by decide
theorem sp_1500n : (Int16.ofInt (1500)).toInt32 = nI 1500 := by decide
theorem sp_4096 : (Int16.ofInt (4096)).toInt32 = (4096 : Int32) := by decide
theorem sp_4096n : (Int16.ofInt (4096)).toInt32 = nI 4096 := by decide
theorem sp_9999 : (Int16.ofInt (9999)).toInt32 = (9999 : Int32) := by decide
theorem sp_9999n : (Int16.ofInt (9999)).toInt32 = nI 9999 := by decide
theorem sp_10000 : (Int16.ofInt (10000)).toInt32 = (10000 : Int32) := by decide
theorem sp_10000n : (Int16.ofInt (10000)).toInt32 = nI 10000 := by decide
theorem lays_X0 : ∀ w ∈ u_ws RX0 TX0 8, w ∈ hgd := by decide +kernel
theorem lays_X1 : ∀ w ∈ u_ws RX1 TX1 2, w ∈ hgd := by decide +kernel
theorem lays_X3 : ∀ w ∈ u_ws RX3 TX3 2, w ∈ hgd := by decide +kernel
theorem lays_X4 : ∀ w ∈ u_ws RX4 TX4 16, w ∈ hgd := by decide +kernel
theorem lays_X5 : ∀ w ∈ u_ws RX5 TX5 8, w ∈ hgd := by decide +kernel
theorem lays_X6 : ∀ w ∈ u_ws RX6 TX6 5, w ∈ hgd := by decide +kernel
theorem fl_X6_10 : hFl RX6 10 5 0 := ⟨RX6, TX6, 5, tyX6, rfl, rfl, by decide, hgd_at 234 (by decide +kernel) rfl, lays_X6, rfl, tyX6_ok, nmX6, by decide, by decide, by decide, by decide, fun _ => Or.inl ⟨_, rfl⟩⟩
theorem fl_X6_16 : hFl RX6 16 5 1 := ⟨RX6, TX6, 5, tyX6, rfl, rfl, by decide, hgd_at 235 (by decide +kernel) rfl, lays_X6, rfl, tyX6_ok, nmX6, by decide, by decide, by decide, by decide, fun _ => Or.inl ⟨_, rfl⟩⟩
theorem fl_X6_22 : hFl RX6 22 5 2 := ⟨RX6, TX6, 5, tyX6, rfl, rfl, by decide, hgd_at 236 (by decide +kernel) rfl, lays_X6, rfl, tyX6_ok, nmX6, by decide, by decide, by decide, by decide, fun _ => Or.inl ⟨_, rfl⟩⟩
theorem fl_X6_29 : hFl RX6 29 5 3 := ⟨RX6, TX6, 5, tyX6, rfl, rfl, by decide, hgd_at 237 (by decide +kernel) rfl, lays_X6, rfl, tyX6_ok, nmX6, by decide, by decide, by decide, by decide, fun _ => Or.inl ⟨_, rfl⟩⟩
theorem fl_X6_36 : hFl RX6 36 5 4 := ⟨RX6, TX6, 5, tyX6, rfl, rfl, by decide, hgd_at 238 (by decide +kernel) rfl, lays_X6, rfl, tyX6_ok, nmX6, by decide, by decide, by decide, by decide, fun _ => Or.inl ⟨_, rfl⟩⟩
theorem fl_X6_44 : hFl RX6 44 3 3 := ⟨RX4, TX4, 16, tyX4, rfl, rfl, by decide, hgd_at 106 (by decide +kernel) rfl, lays_X4, rfl, tyX4_ok, nmX4, by decide, by decide, by decide, by decide, fun h => absurd h (by decide)⟩
theorem fl_X6_52 : hFl RX6 52 3 4 := ⟨RX4, TX4, 16, tyX4, rfl, rfl, by decide, hgd_at 108 (by decide +kernel) rfl, lays_X4, rfl, tyX4_ok, nmX4, by decide, by decide, by decide, by decide, fun h => absurd h (by decide)⟩
theorem fl_X6_58 : hFl RX6 58 3 5 := ⟨RX4, TX4, 16, tyX4, rfl, rfl, by decide, hgd_at 110 (by decide +kernel) rfl, lays_X4, rfl, tyX4_ok, nmX4, by decide, by decide, by decide, by decide, fun h => absurd h (by decide)⟩
theorem fl_X6_61 : hFl RX6 61 3 6 := ⟨RX4, TX4, 16, tyX4, rfl, rfl, by decide, hgd_at 112 (by decide +kernel) rfl, lays_X4, rfl, tyX4_ok, nmX4, by decide, by decide, by decide, by decide, fun h => absurd h (by decide)⟩
theorem fl_X6_69 : hFl RX6 69 3 7 := ⟨RX4, TX4, 16, tyX4, rfl, rfl, by decide, hgd_at 114 (by decide +kernel) rfl, lays_X4, rfl, tyX4_ok, nmX4, by decide, by decide, by decide, by decide, fun h => absurd h (by decide)⟩
theorem fl_X6_103 : hFl RX6 103 0 0 := ⟨RX0, TX0, 8, tyX0, rfl, rfl, by decide, hgd_at 57 (by decide +kernel) rfl, lays_X0, rfl, tyX0_ok, nmX0, by decide, by decide, by decide, by decide, fun h => absurd h (by decide)⟩
theorem fl_X6_111 : hFl RX6 111 0 1 := ⟨RX0, TX0, 8, tyX0, rfl, rfl, by decide, hgd_at 60 (by decide +kernel) rfl, lays_X0, rfl, tyX0_ok, nmX0, by decide, by decide, by decide, by decide, fun h => absurd h (by decide)⟩
theorem fl_X6_115 : Cond.fieldLink RX6 115 "HoldingStack$Kind" "number" "I" ∈ hgd := hgd_at 643 (by decide +kernel) rfl
theorem fl_X6_116 : hFl RX6 116 0 2 := ⟨RX0, TX0, 8, tyX0, rfl, rfl, by decide, hgd_at 63 (by decide +kernel) rfl, lays_X0, rfl, tyX0_ok, nmX0, by decide, by decide, by decide, by decide, fun h => absurd h (by decide)⟩
theorem fl_X6_119 : hFl RX6 119 0 3 := ⟨RX0, TX0, 8, tyX0, rfl, rfl, by decide, hgd_at 67 (by decide +kernel) rfl, lays_X0, rfl, tyX0_ok, nmX0, by decide, by decide, by decide, by decide, fun h => absurd h (by decide)⟩
theorem fl_X6_129 : hFl RX6 129 0 7 := ⟨RX0, TX0, 8, tyX0, rfl, rfl, by decide, hgd_at 78 (by decide +kernel) rfl, lays_X0, rfl, tyX0_ok, nmX0, by decide, by decide, by decide, by decide, fun h => absurd h (by decide)⟩
theorem fl_X6_136 : hFl RX6 136 3 9 := ⟨RX4, TX4, 16, tyX4, rfl, rfl, by decide, hgd_at 118 (by decide +kernel) rfl, lays_X4, rfl, tyX4_ok, nmX4, by decide, by decide, by decide, by decide, fun h => absurd h (by decide)⟩
theorem fl_X6_139 : hFl RX6 139 3 10 := ⟨RX4, TX4, 16, tyX4, rfl, rfl, by decide, hgd_at 120 (by decide +kernel) rfl, lays_X4, rfl, tyX4_ok, nmX4, by decide, by decide, by decide, by decide, fun h => absurd h (by decide)⟩
theorem fl_X6_142 : hFl RX6 142 3 8 := ⟨RX4, TX4, 16, tyX4, rfl, rfl, by decide, hgd_at 116 (by decide +kernel) rfl, lays_X4, rfl, tyX4_ok, nmX4, by decide, by decide, by decide, by decide, fun h => absurd h (by decide)⟩
theorem fl_X6_145 : hFl RX6 145 3 15 := ⟨RX4, TX4, 16, tyX4, rfl, rfl, by decide, hgd_at 130 (by decide +kernel) rfl, lays_X4, rfl, tyX4_ok, nmX4, by decide, by decide, by decide, by decide, fun h => absurd h (by decide)⟩
theorem fl_X6_148 : hFl RX6 148 1 1 := ⟨RX1, TX1, 2, tyX1, rfl, rfl, by decide, hgd_at 175 (by decide +kernel) rfl, lays_X1, rfl, tyX1_ok, nmX1, by decide, by decide, by decide, by decide, fun h => absurd h (by decide)⟩
theorem fl_X6_160 : hFl RX6 160 0 4 := ⟨RX0, TX0, 8, tyX0, rfl, rfl, by decide, hgd_at 69 (by decide +kernel) rfl, lays_X0, rfl, tyX0_ok, nmX0, by decide, by decide, by decide, by decide, fun h => absurd h (by decide)⟩
theorem fl_X6_166 : hFl RX6 166 0 6 := ⟨RX0, TX0, 8, tyX0, rfl, rfl, by decide, hgd_at 76 (by decide +kernel) rfl, lays_X0, rfl, tyX0_ok, nmX0, by decide, by decide, by decide, by decide, fun h => absurd h (by decide)⟩
theorem fl_X6_205 : hFl RX6 205 4 1 := ⟨RX5, TX5, 8, tyX5, rfl, rfl, by decide, hgd_at 205 (by decide +kernel) rfl, lays_X5, rfl, tyX5_ok, nmX5, by decide, by decide, by decide, by decide, fun h => absurd h (by decide)⟩
theorem fl_X6_239 : hFl RX6 239 3 2 := ⟨RX4, TX4, 16, tyX4, rfl, rfl, by decide, hgd_at 104 (by decide +kernel) rfl, lays_X4, rfl, tyX4_ok, nmX4, by decide, by decide, by decide, by decide, fun h => absurd h (by decide)⟩
theorem fl_X6_250 : hFl RX6 250 0 5 := ⟨RX0, TX0, 8, tyX0, rfl, rfl, by decide, hgd_at 73 (by decide +kernel) rfl, lays_X0, rfl, tyX0_ok, nmX0, by decide, by decide, by decide, by decide, fun h => absurd h (by decide)⟩
theorem fl_X6_256 : hFl RX6 256 3 11 := ⟨RX4, TX4, 16, tyX4, rfl, rfl, by decide, hgd_at 122 (by decide +kernel) rfl, lays_X4, rfl, tyX4_ok, nmX4, by decide, by decide, by decide, by decide, fun h => absurd h (by decide)⟩
theorem fl_X6_259 : hFl RX6 259 3 12 := ⟨RX4, TX4, 16, tyX4, rfl, rfl, by decide, hgd_at 124 (by decide +kernel) rfl, lays_X4, rfl, tyX4_ok, nmX4, by decide, by decide, by decide, by decide, fun h => absurd h (by decide)⟩
theorem fl_X6_262 : hFl RX6 262 3 13 := ⟨RX4, TX4, 16, tyX4, rfl, rfl, by decide, hgd_at 126 (by decide +kernel) rfl, lays_X4, rfl, tyX4_ok, nmX4, by decide, by decide, by decide, by decide, fun h => absurd h (by decide)⟩
theorem fl_X6_265 : hFl RX6 265 3 14 := ⟨RX4, TX4, 16, tyX4, rfl, rfl, by decide, hgd_at 128 (by decide +kernel) rfl, lays_X4, rfl, tyX4_ok, nmX4, by decide, by decide, by decide, by decide, fun h => absurd h (by decide)⟩
theorem fl_X6_268 : hFl RX6 268 4 4 := ⟨RX5, TX5, 8, tyX5, rfl, rfl, by decide, hgd_at 209 (by decide +kernel) rfl, lays_X5, rfl, tyX5_ok, nmX5, by decide, by decide, by decide, by decide, fun h => absurd h (by decide)⟩
theorem fl_X6_272 : hFl RX6 272 4 5 := ⟨RX5, TX5, 8, tyX5, rfl, rfl, by decide, hgd_at 211 (by decide +kernel) rfl, lays_X5, rfl, tyX5_ok, nmX5, by decide, by decide, by decide, by decide, fun h => absurd h (by decide)⟩
theorem fl_X6_273 : hFl RX6 273 4 6 := ⟨RX5, TX5, 8, tyX5, rfl, rfl, by decide, hgd_at 213 (by decide +kernel) rfl, lays_X5, rfl, tyX5_ok, nmX5, by decide, by decide, by decide, by decide, fun h => absurd h (by decide)⟩
theorem fl_X6_274 : hFl RX6 274 4 7 := ⟨RX5, TX5, 8, tyX5, rfl, rfl, by decide, hgd_at 215 (by decide +kernel) rfl, lays_X5, rfl, tyX5_ok, nmX5, by decide, by decide, by decide, by decide, fun h => absurd h (by decide)⟩
theorem fl_X0_9 : Cond.fieldLink RX0 9 "HoldingStack$Kind" "LIGHT" "LHoldingStack$Kind;" ∈ hgd := hgd_at 54 (by decide +kernel) rfl
theorem fl_X0_15 : hFl RX0 15 0 1 := ⟨RX0, TX0, 8, tyX0, rfl, rfl, by decide, hgd_at 59 (by decide +kernel) rfl, lays_X0, rfl, tyX0_ok, nmX0, by decide, by decide, by decide, by decide, fun h => absurd h (by decide)⟩
theorem fl_X0_20 : hFl RX0 20 0 0 := ⟨RX0, TX0, 8, tyX0, rfl, rfl, by decide, hgd_at 56 (by decide +kernel) rfl, lays_X0, rfl, tyX0_ok, nmX0, by decide, by decide, by decide, by decide, fun h => absurd h (by decide)⟩
theorem fl_X0_24 : hFl RX0 24 0 2 := ⟨RX0, TX0, 8, tyX0, rfl, rfl, by decide, hgd_at 62 (by decide +kernel) rfl, lays_X0, rfl, tyX0_ok, nmX0, by decide, by decide, by decide, by decide, fun h => absurd h (by decide)⟩
theorem fl_X0_27 : hFl RX0 27 0 3 := ⟨RX0, TX0, 8, tyX0, rfl, rfl, by decide, hgd_at 65 (by decide +kernel) rfl, lays_X0, rfl, tyX0_ok, nmX0, by decide, by decide, by decide, by decide, fun h => absurd h (by decide)⟩
theorem fl_X0_30 : hFl RX0 30 0 4 := ⟨RX0, TX0, 8, tyX0, rfl, rfl, by decide, hgd_at 68 (by decide +kernel) rfl, lays_X0, rfl, tyX0_ok, nmX0, by decide, by decide, by decide, by decide, fun h => absurd h (by decide)⟩
theorem fl_X0_33 : hFl RX0 33 0 5 := ⟨RX0, TX0, 8, tyX0, rfl, rfl, by decide, hgd_at 71 (by decide +kernel) rfl, lays_X0, rfl, tyX0_ok, nmX0, by decide, by decide, by decide, by decide, fun h => absurd h (by decide)⟩
theorem fl_X0_36 : hFl RX0 36 0 6 := ⟨RX0, TX0, 8, tyX0, rfl, rfl, by decide, hgd_at 74 (by decide +kernel) rfl, lays_X0, rfl, tyX0_ok, nmX0, by decide, by decide, by decide, by decide, fun h => absurd h (by decide)⟩
theorem fl_X0_40 : hFl RX0 40 0 7 := ⟨RX0, TX0, 8, tyX0, rfl, rfl, by decide, hgd_at 77 (by decide +kernel) rfl, lays_X0, rfl, tyX0_ok, nmX0, by decide, by decide, by decide, by decide, fun h => absurd h (by decide)⟩
theorem fl_X0_43 : Cond.fieldLink RX0 43 "HoldingStack$Kind" "reserve" "I" ∈ hgd := hgd_at 640 (by decide +kernel) rfl
theorem fl_X0_46 : Cond.fieldLink RX0 46 "HoldingStack$Kind" "rate" "I" ∈ hgd := hgd_at 639 (by decide +kernel) rfl
theorem fl_X1_11 : hFl RX1 11 1 0 := ⟨RX1, TX1, 2, tyX1, rfl, rfl, by decide, hgd_at 173 (by decide +kernel) rfl, lays_X1, rfl, tyX1_ok, nmX1, by decide, by decide, by decide, by decide, fun _ => Or.inr ⟨_, rfl⟩⟩
theorem fl_X1_18 : hFl RX1 18 1 1 := ⟨RX1, TX1, 2, tyX1, rfl, rfl, by decide, hgd_at 174 (by decide +kernel) rfl, lays_X1, rfl, tyX1_ok, nmX1, by decide, by decide, by decide, by decide, fun h => absurd h (by decide)⟩
theorem fl_X2_3 : Cond.fieldLink RX2 3 "HoldingStack$Kind" "LIGHT" "LHoldingStack$Kind;" ∈ hgd := hgd_at 316 (by decide +kernel) rfl
theorem fl_X2_7 : Cond.fieldLink RX2 7 "HoldingStack$Kind" "MEDIUM" "LHoldingStack$Kind;" ∈ hgd := hgd_at 317 (by decide +kernel) rfl
theorem fl_X2_10 : Cond.fieldLink RX2 10 "HoldingStack$Kind" "HEAVY" "LHoldingStack$Kind;" ∈ hgd := hgd_at 319 (by decide +kernel) rfl
theorem fl_X3_11 : hFl RX3 11 2 0 := ⟨RX3, TX3, 2, tyX3, rfl, rfl, by decide, hgd_at 189 (by decide +kernel) rfl, lays_X3, rfl, tyX3_ok, nmX3, by decide, by decide, by decide, by decide, fun _ => Or.inr ⟨_, rfl⟩⟩
theorem fl_X3_17 : hFl RX3 17 2 1 := ⟨RX3, TX3, 2, tyX3, rfl, rfl, by decide, hgd_at 190 (by decide +kernel) rfl, lays_X3, rfl, tyX3_ok, nmX3, by decide, by decide, by decide, by decide, fun _ => Or.inr ⟨_, rfl⟩⟩
theorem fl_X4_11 : hFl RX4 11 3 0 := ⟨RX4, TX4, 16, tyX4, rfl, rfl, by decide, hgd_at 101 (by decide +kernel) rfl, lays_X4, rfl, tyX4_ok, nmX4, by decide, by decide, by decide, by decide, fun _ => Or.inr ⟨_, rfl⟩⟩
theorem fl_X4_17 : hFl RX4 17 3 1 := ⟨RX4, TX4, 16, tyX4, rfl, rfl, by decide, hgd_at 102 (by decide +kernel) rfl, lays_X4, rfl, tyX4_ok, nmX4, by decide, by decide, by decide, by decide, fun _ => Or.inr ⟨_, rfl⟩⟩
theorem fl_X4_21 : hFl RX4 21 3 3 := ⟨RX4, TX4, 16, tyX4, rfl, rfl, by decide, hgd_at 105 (by decide +kernel) rfl, lays_X4, rfl, tyX4_ok, nmX4, by decide, by decide, by decide, by decide, fun h => absurd h (by decide)⟩
theorem fl_X4_25 : hFl RX4 25 3 4 := ⟨RX4, TX4, 16, tyX4, rfl, rfl, by decide, hgd_at 107 (by decide +kernel) rfl, lays_X4, rfl, tyX4_ok, nmX4, by decide, by decide, by decide, by decide, fun h => absurd h (by decide)⟩
theorem fl_X4_28 : hFl RX4 28 3 5 := ⟨RX4, TX4, 16, tyX4, rfl, rfl, by decide, hgd_at 109 (by decide +kernel) rfl, lays_X4, rfl, tyX4_ok, nmX4, by decide, by decide, by decide, by decide, fun h => absurd h (by decide)⟩
theorem fl_X4_31 : hFl RX4 31 3 6 := ⟨RX4, TX4, 16, tyX4, rfl, rfl, by decide, hgd_at 111 (by decide +kernel) rfl, lays_X4, rfl, tyX4_ok, nmX4, by decide, by decide, by decide, by decide, fun h => absurd h (by decide)⟩
theorem fl_X4_35 : hFl RX4 35 3 7 := ⟨RX4, TX4, 16, tyX4, rfl, rfl, by decide, hgd_at 113 (by decide +kernel) rfl, lays_X4, rfl, tyX4_ok, nmX4, by decide, by decide, by decide, by decide, fun h => absurd h (by decide)⟩
theorem fl_X4_47 : hFl RX4 47 3 2 := ⟨RX4, TX4, 16, tyX4, rfl, rfl, by decide, hgd_at 103 (by decide +kernel) rfl, lays_X4, rfl, tyX4_ok, nmX4, by decide, by decide, by decide, by decide, fun h => absurd h (by decide)⟩
theorem fl_X4_50 : hFl RX4 50 3 8 := ⟨RX4, TX4, 16, tyX4, rfl, rfl, by decide, hgd_at 115 (by decide +kernel) rfl, lays_X4, rfl, tyX4_ok, nmX4, by decide, by decide, by decide, by decide, fun h => absurd h (by decide)⟩
theorem fl_X4_53 : hFl RX4 53 3 9 := ⟨RX4, TX4, 16, tyX4, rfl, rfl, by decide, hgd_at 117 (by decide +kernel) rfl, lays_X4, rfl, tyX4_ok, nmX4, by decide, by decide, by decide, by decide, fun h => absurd h (by decide)⟩
theorem fl_X4_56 : hFl RX4 56 3 10 := ⟨RX4, TX4, 16, tyX4, rfl, rfl, by decide, hgd_at 119 (by decide +kernel) rfl, lays_X4, rfl, tyX4_ok, nmX4, by decide, by decide, by decide, by decide, fun h => absurd h (by decide)⟩
theorem fl_X4_59 : hFl RX4 59 3 11 := ⟨RX4, TX4, 16, tyX4, rfl, rfl, by decide, hgd_at 121 (by decide +kernel) rfl, lays_X4, rfl, tyX4_ok, nmX4, by decide, by decide, by decide, by decide, fun h => absurd h (by decide)⟩
theorem fl_X4_62 : hFl RX4 62 3 12 := ⟨RX4, TX4, 16, tyX4, rfl, rfl, by decide, hgd_at 123 (by decide +kernel) rfl, lays_X4, rfl, tyX4_ok, nmX4, by decide, by decide, by decide, by decide, fun h => absurd h (by decide)⟩
theorem fl_X4_65 : hFl RX4 65 3 13 := ⟨RX4, TX4, 16, tyX4, rfl, rfl, by decide, hgd_at 125 (by decide +kernel) rfl, lays_X4, rfl, tyX4_ok, nmX4, by decide, by decide, by decide, by decide, fun h => absurd h (by decide)⟩
theorem fl_X4_68 : hFl RX4 68 3 14 := ⟨RX4, TX4, 16, tyX4, rfl, rfl, by decide, hgd_at 127 (by decide +kernel) rfl, lays_X4, rfl, tyX4_ok, nmX4, by decide, by decide, by decide, by decide, fun h => absurd h (by decide)⟩
theorem fl_X4_71 : hFl RX4 71 3 15 := ⟨RX4, TX4, 16, tyX4, rfl, rfl, by decide, hgd_at 129 (by decide +kernel) rfl, lays_X4, rfl, tyX4_ok, nmX4, by decide, by decide, by decide, by decide, fun h => absurd h (by decide)⟩
theorem fl_X4_85 : hFl RX4 85 0 5 := ⟨RX0, TX0, 8, tyX0, rfl, rfl, by decide, hgd_at 72 (by decide +kernel) rfl, lays_X0, rfl, tyX0_ok, nmX0, by decide, by decide, by decide, by decide, fun h => absurd h (by decide)⟩
theorem fl_X4_92 : hFl RX4 92 0 3 := ⟨RX0, TX0, 8, tyX0, rfl, rfl, by decide, hgd_at 66 (by decide +kernel) rfl, lays_X0, rfl, tyX0_ok, nmX0, by decide, by decide, by decide, by decide, fun h => absurd h (by decide)⟩
theorem fl_X4_98 : Cond.fieldLink RX4 98 "HoldingStack$Kind" "reserve" "I" ∈ hgd := hgd_at 642 (by decide +kernel) rfl
theorem fl_X4_107 : hFl RX4 107 0 1 := ⟨RX0, TX0, 8, tyX0, rfl, rfl, by decide, hgd_at 61 (by decide +kernel) rfl, lays_X0, rfl, tyX0_ok, nmX0, by decide, by decide, by decide, by decide, fun h => absurd h (by decide)⟩
theorem fl_X4_111 : hFl RX4 111 0 2 := ⟨RX0, TX0, 8, tyX0, rfl, rfl, by decide, hgd_at 64 (by decide +kernel) rfl, lays_X0, rfl, tyX0_ok, nmX0, by decide, by decide, by decide, by decide, fun h => absurd h (by decide)⟩
theorem fl_X4_114 : hFl RX4 114 0 4 := ⟨RX0, TX0, 8, tyX0, rfl, rfl, by decide, hgd_at 70 (by decide +kernel) rfl, lays_X0, rfl, tyX0_ok, nmX0, by decide, by decide, by decide, by decide, fun h => absurd h (by decide)⟩
theorem fl_X4_117 : hFl RX4 117 0 6 := ⟨RX0, TX0, 8, tyX0, rfl, rfl, by decide, hgd_at 75 (by decide +kernel) rfl, lays_X0, rfl, tyX0_ok, nmX0, by decide, by decide, by decide, by decide, fun h => absurd h (by decide)⟩
theorem fl_X4_120 : hFl RX4 120 0 0 := ⟨RX0, TX0, 8, tyX0, rfl, rfl, by decide, hgd_at 58 (by decide +kernel) rfl, lays_X0, rfl, tyX0_ok, nmX0, by decide, by decide, by decide, by decide, fun h => absurd h (by decide)⟩
theorem fl_X4_164 : Cond.fieldLink RX4 164 "HoldingStack$Kind" "wake" "I" ∈ hgd := hgd_at 641 (by decide +kernel) rfl
theorem fl_X4_173 : hFl RX4 173 0 7 := ⟨RX0, TX0, 8, tyX0, rfl, rfl, by decide, hgd_at 79 (by decide +kernel) rfl, lays_X0, rfl, tyX0_ok, nmX0, by decide, by decide, by decide, by decide, fun h => absurd h (by decide)⟩
theorem fl_X5_9 : hFl RX5 9 4 0 := ⟨RX5, TX5, 8, tyX5, rfl, rfl, by decide, hgd_at 203 (by decide +kernel) rfl, lays_X5, rfl, tyX5_ok, nmX5, by decide, by decide, by decide, by decide, fun _ => Or.inr ⟨_, rfl⟩⟩
theorem fl_X5_15 : hFl RX5 15 4 3 := ⟨RX5, TX5, 8, tyX5, rfl, rfl, by decide, hgd_at 207 (by decide +kernel) rfl, lays_X5, rfl, tyX5_ok, nmX5, by decide, by decide, by decide, by decide, fun h => absurd h (by decide)⟩
theorem fl_X5_19 : hFl RX5 19 4 1 := ⟨RX5, TX5, 8, tyX5, rfl, rfl, by decide, hgd_at 204 (by decide +kernel) rfl, lays_X5, rfl, tyX5_ok, nmX5, by decide, by decide, by decide, by decide, fun h => absurd h (by decide)⟩
theorem fl_X5_22 : hFl RX5 22 4 2 := ⟨RX5, TX5, 8, tyX5, rfl, rfl, by decide, hgd_at 206 (by decide +kernel) rfl, lays_X5, rfl, tyX5_ok, nmX5, by decide, by decide, by decide, by decide, fun h => absurd h (by decide)⟩
theorem fl_X5_36 : hFl RX5 36 4 4 := ⟨RX5, TX5, 8, tyX5, rfl, rfl, by decide, hgd_at 208 (by decide +kernel) rfl, lays_X5, rfl, tyX5_ok, nmX5, by decide, by decide, by decide, by decide, fun h => absurd h (by decide)⟩
theorem fl_X5_47 : hFl RX5 47 4 7 := ⟨RX5, TX5, 8, tyX5, rfl, rfl, by decide, hgd_at 214 (by decide +kernel) rfl, lays_X5, rfl, tyX5_ok, nmX5, by decide, by decide, by decide, by decide, fun h => absurd h (by decide)⟩
theorem fl_X5_62 : hFl RX5 62 4 5 := ⟨RX5, TX5, 8, tyX5, rfl, rfl, by decide, hgd_at 210 (by decide +kernel) rfl, lays_X5, rfl, tyX5_ok, nmX5, by decide, by decide, by decide, by decide, fun h => absurd h (by decide)⟩
theorem fl_X5_66 : hFl RX5 66 4 6 := ⟨RX5, TX5, 8, tyX5, rfl, rfl, by decide, hgd_at 212 (by decide +kernel) rfl, lays_X5, rfl, tyX5_ok, nmX5, by decide, by decide, by decide, by decide, fun h => absurd h (by decide)⟩
theorem fl_X5_69 : Cond.fieldLink RX5 69 "HoldingStack$Kind" "LIGHT" "LHoldingStack$Kind;" ∈ hgd := hgd_at 587 (by decide +kernel) rfl
theorem fl_X5_74 : Cond.fieldLink RX5 74 "HoldingStack$Kind" "MEDIUM" "LHoldingStack$Kind;" ∈ hgd := hgd_at 588 (by decide +kernel) rfl
theorem fl_X5_77 : Cond.fieldLink RX5 77 "HoldingStack$Kind" "HEAVY" "LHoldingStack$Kind;" ∈ hgd := hgd_at 589 (by decide +kernel) rfl
theorem ml_X6_1 : Cond.methodLink RX6 1 objectInit ∈ hgd := hgd_at 38 (by decide +kernel) rfl
theorem ml_X6_9 : Cond.methodLink RX6 9 yX4_init ∈ hgd := hgd_at 43 (by decide +kernel) rfl
theorem ml_X6_21 : Cond.methodLink RX6 21 yX1_init ∈ hgd := hgd_at 166 (by decide +kernel) rfl
theorem ml_X6_28 : Cond.methodLink RX6 28 yX3_init ∈ hgd := hgd_at 183 (by decide +kernel) rfl
theorem ml_X6_40 : Cond.methodLink RX6 40 yX1_push ∈ hgd := hgd_at 254 (by decide +kernel) rfl
theorem ml_X6_48 : Cond.methodLink RX6 48 yX4_beginAnew ∈ hgd := hgd_at 274 (by decide +kernel) rfl
theorem ml_X6_55 : Cond.methodLink RX6 55 yX4_changeLap ∈ hgd := hgd_at 282 (by decide +kernel) rfl
theorem ml_X6_65 : Cond.methodLink RX6 65 yX6_asNumber ∈ hgd := hgd_at 302 (by decide +kernel) rfl
theorem ml_X6_72 : Cond.methodLink RX6 72 yX2_of ∈ hgd := hgd_at 313 (by decide +kernel) rfl
theorem ml_X6_78 : Cond.methodLink RX6 78 yX6_checkEntry ∈ hgd := hgd_at 321 (by decide +kernel) rfl
theorem ml_X6_82 : Cond.methodLink RX6 82 yX4_admit ∈ hgd := hgd_at 345 (by decide +kernel) rfl
theorem ml_X6_85 : Cond.methodLink RX6 85 yX6_checkCall ∈ hgd := hgd_at 357 (by decide +kernel) rfl
theorem ml_X6_89 : Cond.methodLink RX6 89 yX4_markCalled ∈ hgd := hgd_at 366 (by decide +kernel) rfl
theorem ml_X6_92 : Cond.methodLink RX6 92 yX4_passMinutes ∈ hgd := hgd_at 374 (by decide +kernel) rfl
theorem ml_X6_95 : Cond.methodLink RX6 95 yX4_hasLevel ∈ hgd := hgd_at 325 (by decide +kernel) rfl
theorem ml_X6_99 : Cond.methodLink RX6 99 yX4_holderOf ∈ hgd := hgd_at 526 (by decide +kernel) rfl
theorem ml_X6_108 : Cond.methodLink RX6 108 yX4_numbered ∈ hgd := hgd_at 361 (by decide +kernel) rfl
theorem ml_X6_122 : Cond.methodLink RX6 122 yX0_isShort ∈ hgd := hgd_at 437 (by decide +kernel) rfl
theorem ml_X6_126 : Cond.methodLink RX6 126 yX0_isHolding ∈ hgd := hgd_at 362 (by decide +kernel) rfl
theorem ml_X6_132 : Cond.methodLink RX6 132 yX6_tellHolding ∈ hgd := hgd_at 438 (by decide +kernel) rfl
theorem ml_X6_151 : Cond.methodLink RX6 151 yX6_tellNumberOfAircraft ∈ hgd := hgd_at 445 (by decide +kernel) rfl
theorem ml_X6_154 : Cond.methodLink RX6 154 yX6_tellFuel ∈ hgd := hgd_at 450 (by decide +kernel) rfl
theorem ml_X6_157 : Cond.methodLink RX6 157 yX0_isOverFix ∈ hgd := hgd_at 531 (by decide +kernel) rfl
theorem ml_X6_163 : Cond.methodLink RX6 163 yX4_isFree ∈ hgd := hgd_at 532 (by decide +kernel) rfl
theorem ml_X6_169 : Cond.methodLink RX6 169 yX6_forecast ∈ hgd := hgd_at 458 (by decide +kernel) rfl
theorem ml_X6_172 : Cond.methodLink RX6 172 yX6_forecastMinutes ∈ hgd := hgd_at 468 (by decide +kernel) rfl
theorem ml_X6_175 : Cond.methodLink RX6 175 yX0_minutesUntilShort ∈ hgd := hgd_at 537 (by decide +kernel) rfl
theorem ml_X6_179 : Cond.methodLink RX6 179 yX6_isFuel ∈ hgd := hgd_at 326 (by decide +kernel) rfl
theorem ml_X6_182 : Cond.methodLink RX6 182 yX4_isFull ∈ hgd := hgd_at 329 (by decide +kernel) rfl
theorem ml_X6_185 : Cond.methodLink RX6 185 yX4_refusal ∈ hgd := hgd_at 333 (by decide +kernel) rfl
theorem ml_X6_188 : Cond.methodLink RX6 188 yX4_copyFrom ∈ hgd := hgd_at 462 (by decide +kernel) rfl
theorem ml_X6_191 : Cond.methodLink RX6 191 yX4_minutesToLanding ∈ hgd := hgd_at 476 (by decide +kernel) rfl
theorem ml_X6_195 : Cond.methodLink RX6 195 yX4_mayLand ∈ hgd := hgd_at 463 (by decide +kernel) rfl
theorem ml_X6_198 : Cond.methodLink RX6 198 yX4_passMinute ∈ hgd := hgd_at 467 (by decide +kernel) rfl
theorem ml_X6_201 : Cond.methodLink RX6 201 yX5_add ∈ hgd := hgd_at 608 (by decide +kernel) rfl
theorem ml_X6_208 : Cond.methodLink RX6 208 yX5_findFault ∈ hgd := hgd_at 559 (by decide +kernel) rfl
theorem ml_X6_211 : Cond.methodLink RX6 211 yX5_restart ∈ hgd := hgd_at 619 (by decide +kernel) rfl
theorem ml_X6_214 : Cond.methodLink RX6 214 yX5_readStrip ∈ hgd := hgd_at 620 (by decide +kernel) rfl
theorem ml_X6_217 : Cond.methodLink RX6 217 yX6_carryOutStrip ∈ hgd := hgd_at 621 (by decide +kernel) rfl
theorem ml_X6_220 : Cond.methodLink RX6 220 yX1_popInto ∈ hgd := hgd_at 489 (by decide +kernel) rfl
theorem ml_X6_224 : Cond.methodLink RX6 224 yX3_put ∈ hgd := hgd_at 497 (by decide +kernel) rfl
theorem ml_X6_228 : Cond.methodLink RX6 228 yX3_get ∈ hgd := hgd_at 510 (by decide +kernel) rfl
theorem ml_X6_236 : Cond.methodLink RX6 236 yX6_tell ∈ hgd := hgd_at 634 (by decide +kernel) rfl
theorem ml_X6_242 : Cond.methodLink RX6 242 yX6_aircraft ∈ hgd := hgd_at 635 (by decide +kernel) rfl
theorem ml_X6_245 : Cond.methodLink RX6 245 yX6_why ∈ hgd := hgd_at 636 (by decide +kernel) rfl
theorem ml_X6_248 : Cond.methodLink RX6 248 yX6_level ∈ hgd := hgd_at 637 (by decide +kernel) rfl
theorem ml_X6_253 : Cond.methodLink RX6 253 yX4_countOf ∈ hgd := hgd_at 449 (by decide +kernel) rfl
theorem ml_X0_3 : Cond.methodLink RX0 3 objectInit ∈ hgd := hgd_at 53 (by decide +kernel) rfl
theorem ml_X0_49 : Cond.methodLink RX0 49 yX0_burnPerMinute ∈ hgd := hgd_at 390 (by decide +kernel) rfl
theorem ml_X0_53 : Cond.methodLink RX0 53 yJ9_min_7cf53 ∈ hgd := hgd_at 394 (by decide +kernel) rfl
theorem ml_X1_3 : Cond.methodLink RX1 3 objectInit ∈ hgd := hgd_at 169 (by decide +kernel) rfl
theorem ml_X1_17 : Cond.methodLink RX1 17 yX4_init ∈ hgd := hgd_at 172 (by decide +kernel) rfl
theorem ml_X1_22 : Cond.methodLink RX1 22 yX1_dropOldest ∈ hgd := hgd_at 258 (by decide +kernel) rfl
theorem ml_X1_25 : Cond.methodLink RX1 25 yX4_copyFrom ∈ hgd := hgd_at 262 (by decide +kernel) rfl
theorem ml_X3_3 : Cond.methodLink RX3 3 objectInit ∈ hgd := hgd_at 186 (by decide +kernel) rfl
theorem ml_X3_21 : Cond.methodLink RX3 21 yX4_init ∈ hgd := hgd_at 188 (by decide +kernel) rfl
theorem ml_X3_22 : Cond.methodLink RX3 22 yX3_has ∈ hgd := hgd_at 501 (by decide +kernel) rfl
theorem ml_X3_26 : Cond.methodLink RX3 26 yX4_copyFrom ∈ hgd := hgd_at 505 (by decide +kernel) rfl
theorem ml_X4_3 : Cond.methodLink RX4 3 objectInit ∈ hgd := hgd_at 46 (by decide +kernel) rfl
theorem ml_X4_38 : Cond.methodLink RX4 38 yX0_init ∈ hgd := hgd_at 50 (by decide +kernel) rfl
theorem ml_X4_41 : Cond.methodLink RX4 41 yJ7_fill_53178 ∈ hgd := hgd_at 98 (by decide +kernel) rfl
theorem ml_X4_74 : Cond.methodLink RX4 74 yX4_numbered ∈ hgd := hgd_at 266 (by decide +kernel) rfl
theorem ml_X4_78 : Cond.methodLink RX4 78 yX0_copyFrom ∈ hgd := hgd_at 270 (by decide +kernel) rfl
theorem ml_X4_82 : Cond.methodLink RX4 82 yX4_holderOf ∈ hgd := hgd_at 286 (by decide +kernel) rfl
theorem ml_X4_88 : Cond.methodLink RX4 88 yX4_hasLevel ∈ hgd := hgd_at 290 (by decide +kernel) rfl
theorem ml_X4_95 : Cond.methodLink RX4 95 yX4_isFree ∈ hgd := hgd_at 337 (by decide +kernel) rfl
theorem ml_X4_103 : Cond.methodLink RX4 103 yX4_countOf ∈ hgd := hgd_at 341 (by decide +kernel) rfl
theorem ml_X4_123 : Cond.methodLink RX4 123 yX4_setHolder ∈ hgd := hgd_at 349 (by decide +kernel) rfl
theorem ml_X4_127 : Cond.methodLink RX4 127 yX4_passMinute ∈ hgd := hgd_at 378 (by decide +kernel) rfl
theorem ml_X4_131 : Cond.methodLink RX4 131 yX4_mayLand ∈ hgd := hgd_at 480 (by decide +kernel) rfl
theorem ml_X4_135 : Cond.methodLink RX4 135 yX4_burnAndFly ∈ hgd := hgd_at 382 (by decide +kernel) rfl
theorem ml_X4_138 : Cond.methodLink RX4 138 yX4_divertStarved ∈ hgd := hgd_at 401 (by decide +kernel) rfl
theorem ml_X4_141 : Cond.methodLink RX4 141 yX4_landOne ∈ hgd := hgd_at 413 (by decide +kernel) rfl
theorem ml_X4_144 : Cond.methodLink RX4 144 yX4_goDownLadder ∈ hgd := hgd_at 429 (by decide +kernel) rfl
theorem ml_X4_147 : Cond.methodLink RX4 147 yX0_burnForMinute ∈ hgd := hgd_at 386 (by decide +kernel) rfl
theorem ml_X4_150 : Cond.methodLink RX4 150 yX0_flyMinute ∈ hgd := hgd_at 397 (by decide +kernel) rfl
theorem ml_X4_153 : Cond.methodLink RX4 153 yX0_mustDivert ∈ hgd := hgd_at 405 (by decide +kernel) rfl
theorem ml_X4_156 : Cond.methodLink RX4 156 yX4_leave ∈ hgd := hgd_at 409 (by decide +kernel) rfl
theorem ml_X4_160 : Cond.methodLink RX4 160 yX4_nextToLand ∈ hgd := hgd_at 417 (by decide +kernel) rfl
theorem ml_X4_167 : Cond.methodLink RX4 167 yX0_isOverFix ∈ hgd := hgd_at 421 (by decide +kernel) rfl
theorem ml_X4_170 : Cond.methodLink RX4 170 yX0_isShort ∈ hgd := hgd_at 425 (by decide +kernel) rfl
theorem ml_X5_3 : Cond.methodLink RX5 3 objectInit ∈ hgd := hgd_at 202 (by decide +kernel) rfl
theorem ml_X5_25 : Cond.methodLink RX5 25 yX5_restart ∈ hgd := hgd_at 563 (by decide +kernel) rfl
theorem ml_X5_28 : Cond.methodLink RX5 28 yX5_readStrip ∈ hgd := hgd_at 567 (by decide +kernel) rfl
theorem ml_X5_32 : Cond.methodLink RX5 32 yX5_peek ∈ hgd := hgd_at 571 (by decide +kernel) rfl
theorem ml_X5_40 : Cond.methodLink RX5 40 yX5_readEntry ∈ hgd := hgd_at 575 (by decide +kernel) rfl
theorem ml_X5_43 : Cond.methodLink RX5 43 yX5_readNumber ∈ hgd := hgd_at 590 (by decide +kernel) rfl
theorem ml_X5_50 : Cond.methodLink RX5 50 yX5_fail ∈ hgd := hgd_at 583 (by decide +kernel) rfl
theorem ml_X5_54 : Cond.methodLink RX5 54 yX5_expect ∈ hgd := hgd_at 597 (by decide +kernel) rfl
theorem ml_X5_58 : Cond.methodLink RX5 58 yX5_readKind ∈ hgd := hgd_at 579 (by decide +kernel) rfl
theorem ml_X5_80 : Cond.methodLink RX5 80 yX5_isDigit ∈ hgd := hgd_at 594 (by decide +kernel) rfl
theorem ml_L_9 : Cond.methodLink RL 9 yX6_tell ∈ hgd := hgd_at 441 (by decide +kernel) rfl
theorem ml_L_15 : Cond.methodLink RL 15 yX6_aircraft ∈ hgd := hgd_at 433 (by decide +kernel) rfl
theorem ml_L_19 : Cond.methodLink RL 19 yX6_level ∈ hgd := hgd_at 522 (by decide +kernel) rfl
theorem ml_L_22 : Cond.methodLink RL 22 yX6_why ∈ hgd := hgd_at 527 (by decide +kernel) rfl
theorem ml_L_25 : Cond.methodLink RL 25 yX6_endurance ∈ hgd := hgd_at 533 (by decide +kernel) rfl
theorem ml_L_28 : Cond.methodLink RL 28 yX6_minutesLeft ∈ hgd := hgd_at 454 (by decide +kernel) rfl
theorem ml_L_31 : Cond.methodLink RL 31 yX6_landsWith ∈ hgd := hgd_at 544 (by decide +kernel) rfl
theorem ml_L_34 : Cond.methodLink RL 34 yX6_lands ∈ hgd := hgd_at 481 (by decide +kernel) rfl
theorem ml_L_37 : Cond.methodLink RL 37 yX6_keep ∈ hgd := hgd_at 493 (by decide +kernel) rfl
theorem ml_L_40 : Cond.methodLink RL 40 yX6_pass ∈ hgd := hgd_at 370 (by decide +kernel) rfl
theorem ml_L_43 : Cond.methodLink RL 43 yX6_restore ∈ hgd := hgd_at 506 (by decide +kernel) rfl
theorem ml_L_46 : Cond.methodLink RL 46 yX6_append ∈ hgd := hgd_at 604 (by decide +kernel) rfl
theorem ml_L_49 : Cond.methodLink RL 49 yL_number ∈ hgd := hgd_at 612 (by decide +kernel) rfl
theorem ml_L_55 : Cond.methodLink RL 55 yX6_clearText ∈ hgd := hgd_at 551 (by decide +kernel) rfl
theorem ml_L_59 : Cond.methodLink RL 59 yX6_faultPosition ∈ hgd := hgd_at 555 (by decide +kernel) rfl
theorem ml_L_62 : Cond.methodLink RL 62 yL_strip ∈ hgd := hgd_at 601 (by decide +kernel) rfl
theorem ml_L_66 : Cond.methodLink RL 66 yX6_run ∈ hgd := hgd_at 615 (by decide +kernel) rfl
theorem ml_L_69 : Cond.methodLink RL 69 yX6_undo ∈ hgd := hgd_at 485 (by decide +kernel) rfl
theorem ml_L_72 : Cond.methodLink RL 72 yX6_enter ∈ hgd := hgd_at 309 (by decide +kernel) rfl
theorem ml_L_76 : Cond.methodLink RL 76 yX6_checksum ∈ hgd := hgd_at 628 (by decide +kernel) rfl
theorem ml_L_80 : Cond.methodLink RL 80 yX6_begin ∈ hgd := hgd_at 250 (by decide +kernel) rfl
theorem ml_L_83 : Cond.methodLink RL 83 yX6_setLap ∈ hgd := hgd_at 278 (by decide +kernel) rfl
theorem ml_L_86 : Cond.methodLink RL 86 yX6_setLimit ∈ hgd := hgd_at 294 (by decide +kernel) rfl
theorem ml_L_89 : Cond.methodLink RL 89 yX6_call ∈ hgd := hgd_at 353 (by decide +kernel) rfl
theorem ml_L_92 : Cond.methodLink RL 92 yX6_bestLevel ∈ hgd := hgd_at 472 (by decide +kernel) rfl
theorem ml_L_95 : Cond.methodLink RL 95 yX6_init ∈ hgd := hgd_at 35 (by decide +kernel) rfl
theorem ml_L_96 : Cond.methodLink RL 96 yL_cell ∈ hgd := hgd_at 514 (by decide +kernel) rfl
theorem ml_L_100 : Cond.methodLink RL 100 yL_sound ∈ hgd := hgd_at 519 (by decide +kernel) rfl
theorem ml_L_104 : Cond.methodLink RL 104 yX6_setLadder ∈ hgd := hgd_at 305 (by decide +kernel) rfl
theorem ml_L_108 : Cond.methodLink RL 108 yX6_setRunway ∈ hgd := hgd_at 298 (by decide +kernel) rfl
theorem ml_L_112 : Cond.methodLink RL 112 yL_texts ∈ hgd := hgd_at 548 (by decide +kernel) rfl
theorem ml_L_116 : Cond.methodLink RL 116 yL_minutes ∈ hgd := hgd_at 541 (by decide +kernel) rfl
theorem ml_L_120 : Cond.methodLink RL 120 yL_refuses ∈ hgd := hgd_at 625 (by decide +kernel) rfl
theorem oi_1 : Cond.instanceMethod objectInit ∈ hgd := hgd_at 39 (by decide +kernel) rfl
theorem oi_2 : Cond.code objectInit ⟨#[0xb1]⟩ 1 none ∈ hgd := hgd_at 40 (by decide +kernel) rfl
theorem ac_int : Cond.arrayClass .int ∈ hgd := hgd_at 97 (by decide +kernel) rfl
theorem ac_boolean : Cond.arrayClass .boolean ∈ hgd := hgd_at 196 (by decide +kernel) rfl
theorem ac_char : Cond.arrayClass .char ∈ hgd := hgd_at 233 (by decide +kernel) rfl
theorem cl_X6_7 : Cond.classLink RX6 7 RX4 ∈ hgd := hgd_at 41 (by decide +kernel) rfl
theorem cL_X6_7 : hCl RX6 7 3 := ⟨RX4, TX4, 16, tyX4, rfl, rfl, cl_X6_7, hgd_at 42 (by decide +kernel) rfl, hgd_at 24 (by decide +kernel) rfl, lays_X4, tyX4_ok, by decide +kernel⟩
theorem cl_X6_19 : Cond.classLink RX6 19 RX1 ∈ hgd := hgd_at 164 (by decide +kernel) rfl
theorem cL_X6_19 : hCl RX6 19 1 := ⟨RX1, TX1, 2, tyX1, rfl, rfl, cl_X6_19, hgd_at 165 (by decide +kernel) rfl, hgd_at 29 (by decide +kernel) rfl, lays_X1, tyX1_ok, by decide +kernel⟩
theorem cl_X6_26 : Cond.classLink RX6 26 RX3 ∈ hgd := hgd_at 181 (by decide +kernel) rfl
theorem cL_X6_26 : hCl RX6 26 2 := ⟨RX3, TX3, 2, tyX3, rfl, rfl, cl_X6_26, hgd_at 182 (by decide +kernel) rfl, hgd_at 30 (by decide +kernel) rfl, lays_X3, tyX3_ok, by decide +kernel⟩
theorem cl_X6_33 : Cond.classLink RX6 33 RX5 ∈ hgd := hgd_at 197 (by decide +kernel) rfl
theorem cL_X6_33 : hCl RX6 33 4 := ⟨RX5, TX5, 8, tyX5, rfl, rfl, cl_X6_33, hgd_at 198 (by decide +kernel) rfl, hgd_at 31 (by decide +kernel) rfl, lays_X5, tyX5_ok, by decide +kernel⟩
theorem cl_X1_9 : Cond.classLink RX1 9 RX4 ∈ hgd := hgd_at 170 (by decide +kernel) rfl
theorem cL_X1_9 : hCl RX1 9 3 := ⟨RX4, TX4, 16, tyX4, rfl, rfl, cl_X1_9, hgd_at 42 (by decide +kernel) rfl, hgd_at 24 (by decide +kernel) rfl, lays_X4, tyX4_ok, by decide +kernel⟩
theorem cl_X3_9 : Cond.classLink RX3 9 RX4 ∈ hgd := hgd_at 187 (by decide +kernel) rfl
theorem cL_X3_9 : hCl RX3 9 3 := ⟨RX4, TX4, 16, tyX4, rfl, rfl, cl_X3_9, hgd_at 42 (by decide +kernel) rfl, hgd_at 24 (by decide +kernel) rfl, lays_X4, tyX4_ok, by decide +kernel⟩
theorem cl_X4_9 : Cond.classLink RX4 9 RX0 ∈ hgd := hgd_at 47 (by decide +kernel) rfl
theorem cL_X4_9 : hCl RX4 9 0 := ⟨RX0, TX0, 8, tyX0, rfl, rfl, cl_X4_9, hgd_at 49 (by decide +kernel) rfl, hgd_at 25 (by decide +kernel) rfl, lays_X0, tyX0_ok, by decide +kernel⟩
theorem cl_L_10 : Cond.classLink RL 10 RX6 ∈ hgd := hgd_at 33 (by decide +kernel) rfl
theorem cL_L_10 : hCl RL 10 5 := ⟨RX6, TX6, 5, tyX6, rfl, rfl, cl_L_10, hgd_at 34 (by decide +kernel) rfl, hgd_at 23 (by decide +kernel) rfl, lays_X6, tyX6_ok, by decide +kernel⟩
theorem kl_X6_232 : Cond.constantLong RX6 232 157 ∈ hgd := hgd_at 632 (by decide +kernel) rfl
theorem kl_X6_234 : Cond.constantLong RX6 234 31 ∈ hgd := hgd_at 633 (by decide +kernel) rfl
theorem kc_L_7 : Cond.constant RL 7 15485827 ∈ hgd := hgd_at 517 (by decide +kernel) rfl
theorem kc_L_8 : Cond.constant RL 8 2147483647 ∈ hgd := hgd_at 518 (by decide +kernel) rfl
theorem kc_L_111 : Cond.constant RL 111 65536 ∈ hgd := hgd_at 638 (by decide +kernel) rfl
theorem ff_0_0 : hFin 0 0 := ⟨RX0, TX0, 8, rfl, rfl⟩
theorem fn_0_1 : hNfin 0 1 := ⟨RX0, TX0, 8, rfl, rfl⟩
theorem fn_0_2 : hNfin 0 2 := ⟨RX0, TX0, 8, rfl, rfl⟩
theorem fn_0_3 : hNfin 0 3 := ⟨RX0, TX0, 8, rfl, rfl⟩
theorem fn_0_4 : hNfin 0 4 := ⟨RX0, TX0, 8, rfl, rfl⟩
theorem fn_0_5 : hNfin 0 5 := ⟨RX0, TX0, 8, rfl, rfl⟩
theorem fn_0_6 : hNfin 0 6 := ⟨RX0, TX0, 8, rfl, rfl⟩
theorem fn_0_7 : hNfin 0 7 := ⟨RX0, TX0, 8, rfl, rfl⟩
theorem ff_1_0 : hFin 1 0 := ⟨RX1, TX1, 2, rfl, rfl⟩
theorem fn_1_1 : hNfin 1 1 := ⟨RX1, TX1, 2, rfl, rfl⟩
theorem ff_2_0 : hFin 2 0 := ⟨RX3, TX3, 2, rfl, rfl⟩
theorem ff_2_1 : hFin 2 1 := ⟨RX3, TX3, 2, rfl, rfl⟩
theorem ff_3_0 : hFin 3 0 := ⟨RX4, TX4, 16, rfl, rfl⟩
theorem ff_3_1 : hFin 3 1 := ⟨RX4, TX4, 16, rfl, rfl⟩
theorem fn_3_2 : hNfin 3 2 := ⟨RX4, TX4, 16, rfl, rfl⟩
theorem fn_3_3 : hNfin 3 3 := ⟨RX4, TX4, 16, rfl, rfl⟩
theorem fn_3_4 : hNfin 3 4 := ⟨RX4, TX4, 16, rfl, rfl⟩
theorem fn_3_5 : hNfin 3 5 := ⟨RX4, TX4, 16, rfl, rfl⟩
theorem fn_3_6 : hNfin 3 6 := ⟨RX4, TX4, 16, rfl, rfl⟩
theorem fn_3_7 : hNfin 3 7 := ⟨RX4, TX4, 16, rfl, rfl⟩
theorem fn_3_8 : hNfin 3 8 := ⟨RX4, TX4, 16, rfl, rfl⟩
theorem fn_3_9 : hNfin 3 9 := ⟨RX4, TX4, 16, rfl, rfl⟩
theorem fn_3_10 : hNfin 3 10 := ⟨RX4, TX4, 16, rfl, rfl⟩
theorem fn_3_11 : hNfin 3 11 := ⟨RX4, TX4, 16, rfl, rfl⟩
theorem fn_3_12 : hNfin 3 12 := ⟨RX4, TX4, 16, rfl, rfl⟩
theorem fn_3_13 : hNfin 3 13 := ⟨RX4, TX4, 16, rfl, rfl⟩
theorem fn_3_14 : hNfin 3 14 := ⟨RX4, TX4, 16, rfl, rfl⟩
theorem fn_3_15 : hNfin 3 15 := ⟨RX4, TX4, 16, rfl, rfl⟩
theorem ff_4_0 : hFin 4 0 := ⟨RX5, TX5, 8, rfl, rfl⟩
theorem fn_4_1 : hNfin 4 1 := ⟨RX5, TX5, 8, rfl, rfl⟩
theorem fn_4_2 : hNfin 4 2 := ⟨RX5, TX5, 8, rfl, rfl⟩
theorem fn_4_3 : hNfin 4 3 := ⟨RX5, TX5, 8, rfl, rfl⟩
theorem fn_4_4 : hNfin 4 4 := ⟨RX5, TX5, 8, rfl, rfl⟩
theorem fn_4_5 : hNfin 4 5 := ⟨RX5, TX5, 8, rfl, rfl⟩
theorem fn_4_6 : hNfin 4 6 := ⟨RX5, TX5, 8, rfl, rfl⟩
theorem fn_4_7 : hNfin 4 7 := ⟨RX5, TX5, 8, rfl, rfl⟩
theorem ff_5_0 : hFin 5 0 := ⟨RX6, TX6, 5, rfl, rfl⟩
theorem ff_5_1 : hFin 5 1 := ⟨RX6, TX6, 5, rfl, rfl⟩
theorem ff_5_2 : hFin 5 2 := ⟨RX6, TX6, 5, rfl, rfl⟩
theorem ff_5_3 : hFin 5 3 := ⟨RX6, TX6, 5, rfl, rfl⟩
theorem ff_5_4 : hFin 5 4 := ⟨RX6, TX6, 5, rfl, rfl⟩
