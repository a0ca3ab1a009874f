theorem ic_m1 : Int32.ofInt (-1) = (-1 : Int32) := by decide
theorem ic_0 : Int32.ofInt (0) = (0 : Int32) := by decide
theorem ic_0n : Int32.ofInt (0) = nI 0 := by decide
theorem ic_1 : Int32.ofInt (1) = (1 : Int32) := by decide
theorem ic_1n : Int32.ofInt (1) = nI 1 := by decide
theorem ic_2 : Int32.ofInt (2) = (2 : Int32) := by decide
theorem ic_2n : Int32.ofInt (2) = nI 2 := by decide
theorem ic_3 : Int32.ofInt (3) = (3 : Int32) := by decide
theorem ic_3n : Int32.ofInt (3) = nI 3 := by decide
theorem ic_4 : Int32.ofInt (4) = (4 : Int32) := by decide
theorem ic_4n : Int32.ofInt (4) = nI 4 := by decide
theorem ic_5 : Int32.ofInt (5) = (5 : Int32) := by decide
theorem ic_5n : Int32.ofInt (5) = nI 5 := by decide
theorem bp_m6 : (Int8.ofInt (-6)).toInt32 = (-6 : Int32) := by decide
theorem bp_m5 : (Int8.ofInt (-5)).toInt32 = (-5 : Int32) := by decide
theorem bp_m4 : (Int8.ofInt (-4)).toInt32 = (-4 : Int32) := by decide
theorem bp_m3 : (Int8.ofInt (-3)).toInt32 = (-3 : Int32) := by decide
theorem bp_m2 : (Int8.ofInt (-2)).toInt32 = (-2 : Int32) := by decide
theorem bp_6 : (Int8.ofInt (6)).toInt32 = (6 : Int32) := by decide
theorem bp_6n : (Int8.ofInt (6)).toInt32 = nI 6 := by decide
theorem bp_7 : (Int8.ofInt (7)).toInt32 = (7 : Int32) := by decide
theorem bp_7n : (Int8.ofInt (7)).toInt32 = nI 7 := by decide
theorem bp_8 : (Int8.ofInt (8)).toInt32 = (8 : Int32) := by decide
theorem bp_8n : (Int8.ofInt (8)).toInt32 = nI 8 := by decide
theorem bp_9 : (Int8.ofInt (9)).toInt32 = (9 : Int32) := by decide
theorem bp_9n : (Int8.ofInt (9)).toInt32 = nI 9 := by decide
theorem bp_10 : (Int8.ofInt (10)).toInt32 = (10 : Int32) := by decide
theorem bp_10n : (Int8.ofInt (10)).toInt32 = nI 10 := by decide
theorem bp_11 : (Int8.ofInt (11)).toInt32 = (11 : Int32) := by decide
theorem bp_11n : (Int8.ofInt (11)).toInt32 = nI 11 := by decide
theorem bp_12 : (Int8.ofInt (12)).toInt32 = (12 : Int32) := by decide
theorem bp_12n : (Int8.ofInt (12)).toInt32 = nI 12 := by decide
theorem bp_13 : (Int8.ofInt (13)).toInt32 = (13 : Int32) := by decide
theorem bp_13n : (Int8.ofInt (13)).toInt32 = nI 13 := by decide
theorem bp_14 : (Int8.ofInt (14)).toInt32 = (14 : Int32) := by decide
theorem bp_14n : (Int8.ofInt (14)).toInt32 = nI 14 := by decide
theorem bp_15 : (Int8.ofInt (15)).toInt32 = (15 : Int32) := by decide
theorem bp_15n : (Int8.ofInt (15)).toInt32 = nI 15 := by decide
theorem bp_16 : (Int8.ofInt (16)).toInt32 = (16 : Int32) := by decide
theorem bp_16n : (Int8.ofInt (16)).toInt32 = nI 16 := by decide
theorem bp_17 : (Int8.ofInt (17)).toInt32 = (17 : Int32) := by decide
theorem bp_17n : (Int8.ofInt (17)).toInt32 = nI 17 := by decide
theorem bp_18 : (Int8.ofInt (18)).toInt32 = (18 : Int32) := by decide
theorem bp_18n : (Int8.ofInt (18)).toInt32 = nI 18 := by decide
theorem bp_19 : (Int8.ofInt (19)).toInt32 = (19 : Int32) := by decide
theorem bp_19n : (Int8.ofInt (19)).toInt32 = nI 19 := by decide
theorem bp_20 : (Int8.ofInt (20)).toInt32 = (20 : Int32) := by decide
theorem bp_20n : (Int8.ofInt (20)).toInt32 = nI 20 := by decide
theorem bp_31 : (Int8.ofInt (31)).toInt32 = (31 : Int32) := by decide
theorem bp_31n : (Int8.ofInt (31)).toInt32 = nI 31 := by decide
theorem bp_32 : (Int8.ofInt (32)).toInt32 = (32 : Int32) := by decide
theorem bp_32n : (Int8.ofInt (32)).toInt32 = nI 32 := by decide
theorem bp_40 : (Int8.ofInt (40)).toInt32 = (40 : Int32) := by decide
theorem bp_40n : (Int8.ofInt (40)).toInt32 = nI 40 := by decide
theorem bp_43 : (Int8.ofInt (43)).toInt32 = (43 : Int32) := by decide
theorem bp_43n : (Int8.ofInt (43)).toInt32 = nI 43 := by decide
theorem bp_48 : (Int8.ofInt (48)).toInt32 = (48 : Int32) := by decide
theorem bp_48n : (Int8.ofInt (48)).toInt32 = nI 48 := by decide
theorem bp_57 : (Int8.ofInt (57)).toInt32 = (57 : Int32) := by decide
theorem bp_57n : (Int8.ofInt (57)).toInt32 = nI 57 := by decide
theorem bp_59 : (Int8.ofInt (59)).toInt32 = (59 : Int32) := by decide
theorem bp_59n : (Int8.ofInt (59)).toInt32 = nI 59 := by decide
theorem bp_64 : (Int8.ofInt (64)).toInt32 = (64 : Int32) := by decide
theorem bp_64n : (Int8.ofInt (64)).toInt32 = nI 64 := by decide
theorem bp_80 : (Int8.ofInt (80)).toInt32 = (80 : Int32) := by decide
theorem bp_80n : (Int8.ofInt (80)).toInt32 = nI 80 := by decide
theorem bp_99 : (Int8.ofInt (99)).toInt32 = (99 : Int32) := by decide
theorem bp_99n : (Int8.ofInt (99)).toInt32 = nI 99 := by decide
theorem bp_100 : (Int8.ofInt (100)).toInt32 = (100 : Int32) := by decide
theorem bp_100n : (Int8.ofInt (100)).toInt32 = nI 100 := by decide
theorem bp_104 : (Int8.ofInt (104)).toInt32 = (104 : Int32) := by decide
theorem bp_104n : (Int8.ofInt (104)).toInt32 = nI 104 := by decide
theorem bp_108 : (Int8.ofInt (108)).toInt32 = (108 : Int32) := by decide
theorem bp_108n : (Int8.ofInt (108)).toInt32 = nI 108 := by decide
theorem bp_109 : (Int8.ofInt (109)).toInt32 = (109 : Int32) := by decide
theorem bp_109n : (Int8.ofInt (109)).toInt32 = nI 109 := by decide
theorem bp_111 : (Int8.ofInt (111)).toInt32 = (111 : Int32) := by decide
theorem bp_111n : (Int8.ofInt (111)).toInt32 = nI 111 := by decide
theorem bp_116 : (Int8.ofInt (116)).toInt32 = (116 : Int32) := by decide
theorem bp_116n : (Int8.ofInt (116)).toInt32 = nI 116 := by decide
theorem bp_120 : (Int8.ofInt (120)).toInt32 = (120 : Int32) := by decide
theorem bp_120n : (Int8.ofInt (120)).toInt32 = nI 120 := by decide
theorem bp_126 : (Int8.ofInt (126)).toInt32 = (126 : Int32) := by decide
theorem bp_126n : (Int8.ofInt (126)).toInt32 = nI 126 := by decide
theorem sp_154 : (Int16.ofInt (154)).toInt32 = (154 : Int32) := by decide
theorem sp_154n : (Int16.ofInt (154)).toInt32 = nI 154 := by decide
theorem sp_220 : (Int16.ofInt (220)).toInt32 = (220 : Int32) := by decide
theorem sp_220n : (Int16.ofInt (220)).toInt32 = nI 220 := by decide
theorem sp_308 : (Int16.ofInt (308)).toInt32 = (308 : Int32) := by decide
theorem sp_308n : (Int16.ofInt (308)).toInt32 = nI 308 := by decide
theorem sp_600 : (Int16.ofInt (600)).toInt32 = (600 : Int32) := by decide
theorem sp_600n : (Int16.ofInt (600)).toInt32 = nI 600 := by decide
theorem sp_601 : (Int16.ofInt (601)).toInt32 = (601 : Int32) := by decide
theorem sp_601n : (Int16.ofInt (601)).toInt32 = nI 601 := by decide
theorem sp_616 : (Int16.ofInt (616)).toInt32 = (616 : Int32) := by decide
theorem sp_616n : (Int16.ofInt (616)).toInt32 = nI 616 := by decide
theorem sp_770 : (Int16.ofInt (770)).toInt32 = (770 : Int32) := by decide
theorem sp_770n : (Int16.ofInt (770)).toInt32 = nI 770 := by decide
theorem sp_9999 : (Int16.ofInt (9999)).toInt32 = (9999 : Int32) := by decide
theorem sp_9999n : (Int16.ofInt (9999)).toInt32 = nI 9999 := by decide
theorem lays_X0 : ∀ w ∈ u_ws RX0 TX0 8, w ∈ hgd := by decide +kernel
theorem lays_X1 : ∀ w ∈ u_ws RX1 TX1 2, w ∈ hgd := by decide +kernel
theorem lays_X3 : ∀ w ∈ u_ws RX3 TX3 2, w ∈ hgd := by decide +kernel
theorem lays_X4 : ∀ w ∈ u_ws RX4 TX4 16, w ∈ hgd := by decide +kernel
theorem lays_X5 : ∀ w ∈ u_ws RX5 TX5 8, w ∈ hgd := by decide +kernel
theorem lays_X6 : ∀ w ∈ u_ws RX6 TX6 5, w ∈ hgd := by decide +kernel
theorem lays_X7 : ∀ w ∈ u_ws RX7 TX7 15, w ∈ hgd := by decide +kernel
theorem fl_X6_10 : hFl RX6 10 5 0 := ⟨RX6, TX6, 5, tyX6, rfl, rfl, by decide, hgd_at 270 (by decide +kernel) rfl, lays_X6, rfl, tyX6_ok, nmX6, by decide, by decide, by decide, by decide, fun _ => Or.inl ⟨_, rfl⟩⟩
theorem fl_X6_16 : hFl RX6 16 5 1 := ⟨RX6, TX6, 5, tyX6, rfl, rfl, by decide, hgd_at 271 (by decide +kernel) rfl, lays_X6, rfl, tyX6_ok, nmX6, by decide, by decide, by decide, by decide, fun _ => Or.inl ⟨_, rfl⟩⟩
theorem fl_X6_22 : hFl RX6 22 5 2 := ⟨RX6, TX6, 5, tyX6, rfl, rfl, by decide, hgd_at 272 (by decide +kernel) rfl, lays_X6, rfl, tyX6_ok, nmX6, by decide, by decide, by decide, by decide, fun _ => Or.inl ⟨_, rfl⟩⟩
theorem fl_X6_29 : hFl RX6 29 5 3 := ⟨RX6, TX6, 5, tyX6, rfl, rfl, by decide, hgd_at 273 (by decide +kernel) rfl, lays_X6, rfl, tyX6_ok, nmX6, by decide, by decide, by decide, by decide, fun _ => Or.inl ⟨_, rfl⟩⟩
theorem fl_X6_36 : hFl RX6 36 5 4 := ⟨RX6, TX6, 5, tyX6, rfl, rfl, by decide, hgd_at 274 (by decide +kernel) rfl, lays_X6, rfl, tyX6_ok, nmX6, by decide, by decide, by decide, by decide, fun _ => Or.inl ⟨_, rfl⟩⟩
theorem fl_X6_44 : hFl RX6 44 3 3 := ⟨RX4, TX4, 16, tyX4, rfl, rfl, by decide, hgd_at 142 (by decide +kernel) rfl, lays_X4, rfl, tyX4_ok, nmX4, by decide, by decide, by decide, by decide, fun h => absurd h (by decide)⟩
theorem fl_X6_52 : hFl RX6 52 3 4 := ⟨RX4, TX4, 16, tyX4, rfl, rfl, by decide, hgd_at 144 (by decide +kernel) rfl, lays_X4, rfl, tyX4_ok, nmX4, by decide, by decide, by decide, by decide, fun h => absurd h (by decide)⟩
theorem fl_X6_58 : hFl RX6 58 3 5 := ⟨RX4, TX4, 16, tyX4, rfl, rfl, by decide, hgd_at 146 (by decide +kernel) rfl, lays_X4, rfl, tyX4_ok, nmX4, by decide, by decide, by decide, by decide, fun h => absurd h (by decide)⟩
theorem fl_X6_61 : hFl RX6 61 3 6 := ⟨RX4, TX4, 16, tyX4, rfl, rfl, by decide, hgd_at 148 (by decide +kernel) rfl, lays_X4, rfl, tyX4_ok, nmX4, by decide, by decide, by decide, by decide, fun h => absurd h (by decide)⟩
theorem fl_X6_69 : hFl RX6 69 3 7 := ⟨RX4, TX4, 16, tyX4, rfl, rfl, by decide, hgd_at 150 (by decide +kernel) rfl, lays_X4, rfl, tyX4_ok, nmX4, by decide, by decide, by decide, by decide, fun h => absurd h (by decide)⟩
theorem fl_X6_103 : hFl RX6 103 0 0 := ⟨RX0, TX0, 8, tyX0, rfl, rfl, by decide, hgd_at 93 (by decide +kernel) rfl, lays_X0, rfl, tyX0_ok, nmX0, by decide, by decide, by decide, by decide, fun h => absurd h (by decide)⟩
theorem fl_X6_111 : hFl RX6 111 0 1 := ⟨RX0, TX0, 8, tyX0, rfl, rfl, by decide, hgd_at 96 (by decide +kernel) rfl, lays_X0, rfl, tyX0_ok, nmX0, by decide, by decide, by decide, by decide, fun h => absurd h (by decide)⟩
theorem fl_X6_115 : Cond.fieldLink RX6 115 "HoldingStack$Kind" "number" "I" ∈ hgd := hgd_at 958 (by decide +kernel) rfl
theorem fl_X6_116 : hFl RX6 116 0 2 := ⟨RX0, TX0, 8, tyX0, rfl, rfl, by decide, hgd_at 99 (by decide +kernel) rfl, lays_X0, rfl, tyX0_ok, nmX0, by decide, by decide, by decide, by decide, fun h => absurd h (by decide)⟩
theorem fl_X6_119 : hFl RX6 119 0 3 := ⟨RX0, TX0, 8, tyX0, rfl, rfl, by decide, hgd_at 103 (by decide +kernel) rfl, lays_X0, rfl, tyX0_ok, nmX0, by decide, by decide, by decide, by decide, fun h => absurd h (by decide)⟩
theorem fl_X6_129 : hFl RX6 129 0 7 := ⟨RX0, TX0, 8, tyX0, rfl, rfl, by decide, hgd_at 114 (by decide +kernel) rfl, lays_X0, rfl, tyX0_ok, nmX0, by decide, by decide, by decide, by decide, fun h => absurd h (by decide)⟩
theorem fl_X6_136 : hFl RX6 136 3 9 := ⟨RX4, TX4, 16, tyX4, rfl, rfl, by decide, hgd_at 154 (by decide +kernel) rfl, lays_X4, rfl, tyX4_ok, nmX4, by decide, by decide, by decide, by decide, fun h => absurd h (by decide)⟩
theorem fl_X6_139 : hFl RX6 139 3 10 := ⟨RX4, TX4, 16, tyX4, rfl, rfl, by decide, hgd_at 156 (by decide +kernel) rfl, lays_X4, rfl, tyX4_ok, nmX4, by decide, by decide, by decide, by decide, fun h => absurd h (by decide)⟩
theorem fl_X6_142 : hFl RX6 142 3 8 := ⟨RX4, TX4, 16, tyX4, rfl, rfl, by decide, hgd_at 152 (by decide +kernel) rfl, lays_X4, rfl, tyX4_ok, nmX4, by decide, by decide, by decide, by decide, fun h => absurd h (by decide)⟩
theorem fl_X6_145 : hFl RX6 145 3 15 := ⟨RX4, TX4, 16, tyX4, rfl, rfl, by decide, hgd_at 166 (by decide +kernel) rfl, lays_X4, rfl, tyX4_ok, nmX4, by decide, by decide, by decide, by decide, fun h => absurd h (by decide)⟩
theorem fl_X6_148 : hFl RX6 148 1 1 := ⟨RX1, TX1, 2, tyX1, rfl, rfl, by decide, hgd_at 211 (by decide +kernel) rfl, lays_X1, rfl, tyX1_ok, nmX1, by decide, by decide, by decide, by decide, fun h => absurd h (by decide)⟩
theorem fl_X6_160 : hFl RX6 160 0 4 := ⟨RX0, TX0, 8, tyX0, rfl, rfl, by decide, hgd_at 105 (by decide +kernel) rfl, lays_X0, rfl, tyX0_ok, nmX0, by decide, by decide, by decide, by decide, fun h => absurd h (by decide)⟩
theorem fl_X6_166 : hFl RX6 166 0 6 := ⟨RX0, TX0, 8, tyX0, rfl, rfl, by decide, hgd_at 112 (by decide +kernel) rfl, lays_X0, rfl, tyX0_ok, nmX0, by decide, by decide, by decide, by decide, fun h => absurd h (by decide)⟩
theorem fl_X6_205 : hFl RX6 205 4 1 := ⟨RX5, TX5, 8, tyX5, rfl, rfl, by decide, hgd_at 241 (by decide +kernel) rfl, lays_X5, rfl, tyX5_ok, nmX5, by decide, by decide, by decide, by decide, fun h => absurd h (by decide)⟩
theorem fl_X6_239 : hFl RX6 239 3 2 := ⟨RX4, TX4, 16, tyX4, rfl, rfl, by decide, hgd_at 140 (by decide +kernel) rfl, lays_X4, rfl, tyX4_ok, nmX4, by decide, by decide, by decide, by decide, fun h => absurd h (by decide)⟩
theorem fl_X6_250 : hFl RX6 250 0 5 := ⟨RX0, TX0, 8, tyX0, rfl, rfl, by decide, hgd_at 109 (by decide +kernel) rfl, lays_X0, rfl, tyX0_ok, nmX0, by decide, by decide, by decide, by decide, fun h => absurd h (by decide)⟩
theorem fl_X6_256 : hFl RX6 256 3 11 := ⟨RX4, TX4, 16, tyX4, rfl, rfl, by decide, hgd_at 158 (by decide +kernel) rfl, lays_X4, rfl, tyX4_ok, nmX4, by decide, by decide, by decide, by decide, fun h => absurd h (by decide)⟩
theorem fl_X6_259 : hFl RX6 259 3 12 := ⟨RX4, TX4, 16, tyX4, rfl, rfl, by decide, hgd_at 160 (by decide +kernel) rfl, lays_X4, rfl, tyX4_ok, nmX4, by decide, by decide, by decide, by decide, fun h => absurd h (by decide)⟩
theorem fl_X6_262 : hFl RX6 262 3 13 := ⟨RX4, TX4, 16, tyX4, rfl, rfl, by decide, hgd_at 162 (by decide +kernel) rfl, lays_X4, rfl, tyX4_ok, nmX4, by decide, by decide, by decide, by decide, fun h => absurd h (by decide)⟩
theorem fl_X6_265 : hFl RX6 265 3 14 := ⟨RX4, TX4, 16, tyX4, rfl, rfl, by decide, hgd_at 164 (by decide +kernel) rfl, lays_X4, rfl, tyX4_ok, nmX4, by decide, by decide, by decide, by decide, fun h => absurd h (by decide)⟩
theorem fl_X6_268 : hFl RX6 268 4 4 := ⟨RX5, TX5, 8, tyX5, rfl, rfl, by decide, hgd_at 245 (by decide +kernel) rfl, lays_X5, rfl, tyX5_ok, nmX5, by decide, by decide, by decide, by decide, fun h => absurd h (by decide)⟩
theorem fl_X6_272 : hFl RX6 272 4 5 := ⟨RX5, TX5, 8, tyX5, rfl, rfl, by decide, hgd_at 247 (by decide +kernel) rfl, lays_X5, rfl, tyX5_ok, nmX5, by decide, by decide, by decide, by decide, fun h => absurd h (by decide)⟩
theorem fl_X6_273 : hFl RX6 273 4 6 := ⟨RX5, TX5, 8, tyX5, rfl, rfl, by decide, hgd_at 249 (by decide +kernel) rfl, lays_X5, rfl, tyX5_ok, nmX5, by decide, by decide, by decide, by decide, fun h => absurd h (by decide)⟩
theorem fl_X6_274 : hFl RX6 274 4 7 := ⟨RX5, TX5, 8, tyX5, rfl, rfl, by decide, hgd_at 251 (by decide +kernel) rfl, lays_X5, rfl, tyX5_ok, nmX5, by decide, by decide, by decide, by decide, fun h => absurd h (by decide)⟩
theorem fl_X0_9 : Cond.fieldLink RX0 9 "HoldingStack$Kind" "LIGHT" "LHoldingStack$Kind;" ∈ hgd := hgd_at 90 (by decide +kernel) rfl
theorem fl_X0_15 : hFl RX0 15 0 1 := ⟨RX0, TX0, 8, tyX0, rfl, rfl, by decide, hgd_at 95 (by decide +kernel) rfl, lays_X0, rfl, tyX0_ok, nmX0, by decide, by decide, by decide, by decide, fun h => absurd h (by decide)⟩
theorem fl_X0_20 : hFl RX0 20 0 0 := ⟨RX0, TX0, 8, tyX0, rfl, rfl, by decide, hgd_at 92 (by decide +kernel) rfl, lays_X0, rfl, tyX0_ok, nmX0, by decide, by decide, by decide, by decide, fun h => absurd h (by decide)⟩
theorem fl_X0_24 : hFl RX0 24 0 2 := ⟨RX0, TX0, 8, tyX0, rfl, rfl, by decide, hgd_at 98 (by decide +kernel) rfl, lays_X0, rfl, tyX0_ok, nmX0, by decide, by decide, by decide, by decide, fun h => absurd h (by decide)⟩
theorem fl_X0_27 : hFl RX0 27 0 3 := ⟨RX0, TX0, 8, tyX0, rfl, rfl, by decide, hgd_at 101 (by decide +kernel) rfl, lays_X0, rfl, tyX0_ok, nmX0, by decide, by decide, by decide, by decide, fun h => absurd h (by decide)⟩
theorem fl_X0_30 : hFl RX0 30 0 4 := ⟨RX0, TX0, 8, tyX0, rfl, rfl, by decide, hgd_at 104 (by decide +kernel) rfl, lays_X0, rfl, tyX0_ok, nmX0, by decide, by decide, by decide, by decide, fun h => absurd h (by decide)⟩
theorem fl_X0_33 : hFl RX0 33 0 5 := ⟨RX0, TX0, 8, tyX0, rfl, rfl, by decide, hgd_at 107 (by decide +kernel) rfl, lays_X0, rfl, tyX0_ok, nmX0, by decide, by decide, by decide, by decide, fun h => absurd h (by decide)⟩
theorem fl_X0_36 : hFl RX0 36 0 6 := ⟨RX0, TX0, 8, tyX0, rfl, rfl, by decide, hgd_at 110 (by decide +kernel) rfl, lays_X0, rfl, tyX0_ok, nmX0, by decide, by decide, by decide, by decide, fun h => absurd h (by decide)⟩
theorem fl_X0_40 : hFl RX0 40 0 7 := ⟨RX0, TX0, 8, tyX0, rfl, rfl, by decide, hgd_at 113 (by decide +kernel) rfl, lays_X0, rfl, tyX0_ok, nmX0, by decide, by decide, by decide, by decide, fun h => absurd h (by decide)⟩
theorem fl_X0_43 : Cond.fieldLink RX0 43 "HoldingStack$Kind" "reserve" "I" ∈ hgd := hgd_at 956 (by decide +kernel) rfl
theorem fl_X0_46 : Cond.fieldLink RX0 46 "HoldingStack$Kind" "rate" "I" ∈ hgd := hgd_at 955 (by decide +kernel) rfl
theorem fl_X1_11 : hFl RX1 11 1 0 := ⟨RX1, TX1, 2, tyX1, rfl, rfl, by decide, hgd_at 209 (by decide +kernel) rfl, lays_X1, rfl, tyX1_ok, nmX1, by decide, by decide, by decide, by decide, fun _ => Or.inr ⟨_, rfl⟩⟩
theorem fl_X1_18 : hFl RX1 18 1 1 := ⟨RX1, TX1, 2, tyX1, rfl, rfl, by decide, hgd_at 210 (by decide +kernel) rfl, lays_X1, rfl, tyX1_ok, nmX1, by decide, by decide, by decide, by decide, fun h => absurd h (by decide)⟩
theorem fl_X2_3 : Cond.fieldLink RX2 3 "HoldingStack$Kind" "LIGHT" "LHoldingStack$Kind;" ∈ hgd := hgd_at 352 (by decide +kernel) rfl
theorem fl_X2_7 : Cond.fieldLink RX2 7 "HoldingStack$Kind" "MEDIUM" "LHoldingStack$Kind;" ∈ hgd := hgd_at 353 (by decide +kernel) rfl
theorem fl_X2_10 : Cond.fieldLink RX2 10 "HoldingStack$Kind" "HEAVY" "LHoldingStack$Kind;" ∈ hgd := hgd_at 355 (by decide +kernel) rfl
theorem fl_X3_11 : hFl RX3 11 2 0 := ⟨RX3, TX3, 2, tyX3, rfl, rfl, by decide, hgd_at 225 (by decide +kernel) rfl, lays_X3, rfl, tyX3_ok, nmX3, by decide, by decide, by decide, by decide, fun _ => Or.inr ⟨_, rfl⟩⟩
theorem fl_X3_17 : hFl RX3 17 2 1 := ⟨RX3, TX3, 2, tyX3, rfl, rfl, by decide, hgd_at 226 (by decide +kernel) rfl, lays_X3, rfl, tyX3_ok, nmX3, by decide, by decide, by decide, by decide, fun _ => Or.inr ⟨_, rfl⟩⟩
theorem fl_X4_11 : hFl RX4 11 3 0 := ⟨RX4, TX4, 16, tyX4, rfl, rfl, by decide, hgd_at 137 (by decide +kernel) rfl, lays_X4, rfl, tyX4_ok, nmX4, by decide, by decide, by decide, by decide, fun _ => Or.inr ⟨_, rfl⟩⟩
theorem fl_X4_17 : hFl RX4 17 3 1 := ⟨RX4, TX4, 16, tyX4, rfl, rfl, by decide, hgd_at 138 (by decide +kernel) rfl, lays_X4, rfl, tyX4_ok, nmX4, by decide, by decide, by decide, by decide, fun _ => Or.inr ⟨_, rfl⟩⟩
theorem fl_X4_21 : hFl RX4 21 3 3 := ⟨RX4, TX4, 16, tyX4, rfl, rfl, by decide, hgd_at 141 (by decide +kernel) rfl, lays_X4, rfl, tyX4_ok, nmX4, by decide, by decide, by decide, by decide, fun h => absurd h (by decide)⟩
theorem fl_X4_25 : hFl RX4 25 3 4 := ⟨RX4, TX4, 16, tyX4, rfl, rfl, by decide, hgd_at 143 (by decide +kernel) rfl, lays_X4, rfl, tyX4_ok, nmX4, by decide, by decide, by decide, by decide, fun h => absurd h (by decide)⟩
theorem fl_X4_28 : hFl RX4 28 3 5 := ⟨RX4, TX4, 16, tyX4, rfl, rfl, by decide, hgd_at 145 (by decide +kernel) rfl, lays_X4, rfl, tyX4_ok, nmX4, by decide, by decide, by decide, by decide, fun h => absurd h (by decide)⟩
theorem fl_X4_31 : hFl RX4 31 3 6 := ⟨RX4, TX4, 16, tyX4, rfl, rfl, by decide, hgd_at 147 (by decide +kernel) rfl, lays_X4, rfl, tyX4_ok, nmX4, by decide, by decide, by decide, by decide, fun h => absurd h (by decide)⟩
theorem fl_X4_35 : hFl RX4 35 3 7 := ⟨RX4, TX4, 16, tyX4, rfl, rfl, by decide, hgd_at 149 (by decide +kernel) rfl, lays_X4, rfl, tyX4_ok, nmX4, by decide, by decide, by decide, by decide, fun h => absurd h (by decide)⟩
theorem fl_X4_47 : hFl RX4 47 3 2 := ⟨RX4, TX4, 16, tyX4, rfl, rfl, by decide, hgd_at 139 (by decide +kernel) rfl, lays_X4, rfl, tyX4_ok, nmX4, by decide, by decide, by decide, by decide, fun h => absurd h (by decide)⟩
theorem fl_X4_50 : hFl RX4 50 3 8 := ⟨RX4, TX4, 16, tyX4, rfl, rfl, by decide, hgd_at 151 (by decide +kernel) rfl, lays_X4, rfl, tyX4_ok, nmX4, by decide, by decide, by decide, by decide, fun h => absurd h (by decide)⟩
theorem fl_X4_53 : hFl RX4 53 3 9 := ⟨RX4, TX4, 16, tyX4, rfl, rfl, by decide, hgd_at 153 (by decide +kernel) rfl, lays_X4, rfl, tyX4_ok, nmX4, by decide, by decide, by decide, by decide, fun h => absurd h (by decide)⟩
theorem fl_X4_56 : hFl RX4 56 3 10 := ⟨RX4, TX4, 16, tyX4, rfl, rfl, by decide, hgd_at 155 (by decide +kernel) rfl, lays_X4, rfl, tyX4_ok, nmX4, by decide, by decide, by decide, by decide, fun h => absurd h (by decide)⟩
theorem fl_X4_59 : hFl RX4 59 3 11 := ⟨RX4, TX4, 16, tyX4, rfl, rfl, by decide, hgd_at 157 (by decide +kernel) rfl, lays_X4, rfl, tyX4_ok, nmX4, by decide, by decide, by decide, by decide, fun h => absurd h (by decide)⟩
theorem fl_X4_62 : hFl RX4 62 3 12 := ⟨RX4, TX4, 16, tyX4, rfl, rfl, by decide, hgd_at 159 (by decide +kernel) rfl, lays_X4, rfl, tyX4_ok, nmX4, by decide, by decide, by decide, by decide, fun h => absurd h (by decide)⟩
theorem fl_X4_65 : hFl RX4 65 3 13 := ⟨RX4, TX4, 16, tyX4, rfl, rfl, by decide, hgd_at 161 (by decide +kernel) rfl, lays_X4, rfl, tyX4_ok, nmX4, by decide, by decide, by decide, by decide, fun h => absurd h (by decide)⟩
theorem fl_X4_68 : hFl RX4 68 3 14 := ⟨RX4, TX4, 16, tyX4, rfl, rfl, by decide, hgd_at 163 (by decide +kernel) rfl, lays_X4, rfl, tyX4_ok, nmX4, by decide, by decide, by decide, by decide, fun h => absurd h (by decide)⟩
theorem fl_X4_71 : hFl RX4 71 3 15 := ⟨RX4, TX4, 16, tyX4, rfl, rfl, by decide, hgd_at 165 (by decide +kernel) rfl, lays_X4, rfl, tyX4_ok, nmX4, by decide, by decide, by decide, by decide, fun h => absurd h (by decide)⟩
theorem fl_X4_85 : hFl RX4 85 0 5 := ⟨RX0, TX0, 8, tyX0, rfl, rfl, by decide, hgd_at 108 (by decide +kernel) rfl, lays_X0, rfl, tyX0_ok, nmX0, by decide, by decide, by decide, by decide, fun h => absurd h (by decide)⟩
theorem fl_X4_92 : hFl RX4 92 0 3 := ⟨RX0, TX0, 8, tyX0, rfl, rfl, by decide, hgd_at 102 (by decide +kernel) rfl, lays_X0, rfl, tyX0_ok, nmX0, by decide, by decide, by decide, by decide, fun h => absurd h (by decide)⟩
theorem fl_X4_98 : Cond.fieldLink RX4 98 "HoldingStack$Kind" "reserve" "I" ∈ hgd := hgd_at 954 (by decide +kernel) rfl
theorem fl_X4_107 : hFl RX4 107 0 1 := ⟨RX0, TX0, 8, tyX0, rfl, rfl, by decide, hgd_at 97 (by decide +kernel) rfl, lays_X0, rfl, tyX0_ok, nmX0, by decide, by decide, by decide, by decide, fun h => absurd h (by decide)⟩
theorem fl_X4_111 : hFl RX4 111 0 2 := ⟨RX0, TX0, 8, tyX0, rfl, rfl, by decide, hgd_at 100 (by decide +kernel) rfl, lays_X0, rfl, tyX0_ok, nmX0, by decide, by decide, by decide, by decide, fun h => absurd h (by decide)⟩
theorem fl_X4_114 : hFl RX4 114 0 4 := ⟨RX0, TX0, 8, tyX0, rfl, rfl, by decide, hgd_at 106 (by decide +kernel) rfl, lays_X0, rfl, tyX0_ok, nmX0, by decide, by decide, by decide, by decide, fun h => absurd h (by decide)⟩
theorem fl_X4_117 : hFl RX4 117 0 6 := ⟨RX0, TX0, 8, tyX0, rfl, rfl, by decide, hgd_at 111 (by decide +kernel) rfl, lays_X0, rfl, tyX0_ok, nmX0, by decide, by decide, by decide, by decide, fun h => absurd h (by decide)⟩
theorem fl_X4_120 : hFl RX4 120 0 0 := ⟨RX0, TX0, 8, tyX0, rfl, rfl, by decide, hgd_at 94 (by decide +kernel) rfl, lays_X0, rfl, tyX0_ok, nmX0, by decide, by decide, by decide, by decide, fun h => absurd h (by decide)⟩
theorem fl_X4_164 : Cond.fieldLink RX4 164 "HoldingStack$Kind" "wake" "I" ∈ hgd := hgd_at 957 (by decide +kernel) rfl
theorem fl_X4_173 : hFl RX4 173 0 7 := ⟨RX0, TX0, 8, tyX0, rfl, rfl, by decide, hgd_at 115 (by decide +kernel) rfl, lays_X0, rfl, tyX0_ok, nmX0, by decide, by decide, by decide, by decide, fun h => absurd h (by decide)⟩
theorem fl_X5_9 : hFl RX5 9 4 0 := ⟨RX5, TX5, 8, tyX5, rfl, rfl, by decide, hgd_at 239 (by decide +kernel) rfl, lays_X5, rfl, tyX5_ok, nmX5, by decide, by decide, by decide, by decide, fun _ => Or.inr ⟨_, rfl⟩⟩
theorem fl_X5_15 : hFl RX5 15 4 3 := ⟨RX5, TX5, 8, tyX5, rfl, rfl, by decide, hgd_at 243 (by decide +kernel) rfl, lays_X5, rfl, tyX5_ok, nmX5, by decide, by decide, by decide, by decide, fun h => absurd h (by decide)⟩
theorem fl_X5_19 : hFl RX5 19 4 1 := ⟨RX5, TX5, 8, tyX5, rfl, rfl, by decide, hgd_at 240 (by decide +kernel) rfl, lays_X5, rfl, tyX5_ok, nmX5, by decide, by decide, by decide, by decide, fun h => absurd h (by decide)⟩
theorem fl_X5_22 : hFl RX5 22 4 2 := ⟨RX5, TX5, 8, tyX5, rfl, rfl, by decide, hgd_at 242 (by decide +kernel) rfl, lays_X5, rfl, tyX5_ok, nmX5, by decide, by decide, by decide, by decide, fun h => absurd h (by decide)⟩
theorem fl_X5_36 : hFl RX5 36 4 4 := ⟨RX5, TX5, 8, tyX5, rfl, rfl, by decide, hgd_at 244 (by decide +kernel) rfl, lays_X5, rfl, tyX5_ok, nmX5, by decide, by decide, by decide, by decide, fun h => absurd h (by decide)⟩
theorem fl_X5_47 : hFl RX5 47 4 7 := ⟨RX5, TX5, 8, tyX5, rfl, rfl, by decide, hgd_at 250 (by decide +kernel) rfl, lays_X5, rfl, tyX5_ok, nmX5, by decide, by decide, by decide, by decide, fun h => absurd h (by decide)⟩
theorem fl_X5_62 : hFl RX5 62 4 5 := ⟨RX5, TX5, 8, tyX5, rfl, rfl, by decide, hgd_at 246 (by decide +kernel) rfl, lays_X5, rfl, tyX5_ok, nmX5, by decide, by decide, by decide, by decide, fun h => absurd h (by decide)⟩
theorem fl_X5_66 : hFl RX5 66 4 6 := ⟨RX5, TX5, 8, tyX5, rfl, rfl, by decide, hgd_at 248 (by decide +kernel) rfl, lays_X5, rfl, tyX5_ok, nmX5, by decide, by decide, by decide, by decide, fun h => absurd h (by decide)⟩
theorem fl_X5_69 : Cond.fieldLink RX5 69 "HoldingStack$Kind" "LIGHT" "LHoldingStack$Kind;" ∈ hgd := hgd_at 588 (by decide +kernel) rfl
theorem fl_X5_74 : Cond.fieldLink RX5 74 "HoldingStack$Kind" "MEDIUM" "LHoldingStack$Kind;" ∈ hgd := hgd_at 589 (by decide +kernel) rfl
theorem fl_X5_77 : Cond.fieldLink RX5 77 "HoldingStack$Kind" "HEAVY" "LHoldingStack$Kind;" ∈ hgd := hgd_at 590 (by decide +kernel) rfl
theorem fl_X7_7 : hFl RX7 7 6 0 := ⟨RX7, TX7, 15, tyX7, rfl, rfl, by decide, hgd_at 657 (by decide +kernel) rfl, lays_X7, rfl, tyX7_ok, nmX7, by decide, by decide, by decide, by decide, fun _ => Or.inr ⟨_, rfl⟩⟩
theorem fl_X7_13 : hFl RX7 13 6 1 := ⟨RX7, TX7, 15, tyX7, rfl, rfl, by decide, hgd_at 658 (by decide +kernel) rfl, lays_X7, rfl, tyX7_ok, nmX7, by decide, by decide, by decide, by decide, fun _ => Or.inr ⟨_, rfl⟩⟩
theorem fl_X7_16 : hFl RX7 16 6 3 := ⟨RX7, TX7, 15, tyX7, rfl, rfl, by decide, hgd_at 660 (by decide +kernel) rfl, lays_X7, rfl, tyX7_ok, nmX7, by decide, by decide, by decide, by decide, fun _ => Or.inr ⟨_, rfl⟩⟩
theorem fl_X7_19 : hFl RX7 19 6 4 := ⟨RX7, TX7, 15, tyX7, rfl, rfl, by decide, hgd_at 661 (by decide +kernel) rfl, lays_X7, rfl, tyX7_ok, nmX7, by decide, by decide, by decide, by decide, fun _ => Or.inr ⟨_, rfl⟩⟩
theorem fl_X7_22 : hFl RX7 22 6 5 := ⟨RX7, TX7, 15, tyX7, rfl, rfl, by decide, hgd_at 662 (by decide +kernel) rfl, lays_X7, rfl, tyX7_ok, nmX7, by decide, by decide, by decide, by decide, fun _ => Or.inr ⟨_, rfl⟩⟩
theorem fl_X7_26 : hFl RX7 26 6 6 := ⟨RX7, TX7, 15, tyX7, rfl, rfl, by decide, hgd_at 663 (by decide +kernel) rfl, lays_X7, rfl, tyX7_ok, nmX7, by decide, by decide, by decide, by decide, fun _ => Or.inr ⟨_, rfl⟩⟩
theorem fl_X7_29 : hFl RX7 29 6 9 := ⟨RX7, TX7, 15, tyX7, rfl, rfl, by decide, hgd_at 666 (by decide +kernel) rfl, lays_X7, rfl, tyX7_ok, nmX7, by decide, by decide, by decide, by decide, fun _ => Or.inr ⟨_, rfl⟩⟩
theorem fl_X7_32 : hFl RX7 32 6 10 := ⟨RX7, TX7, 15, tyX7, rfl, rfl, by decide, hgd_at 667 (by decide +kernel) rfl, lays_X7, rfl, tyX7_ok, nmX7, by decide, by decide, by decide, by decide, fun _ => Or.inr ⟨_, rfl⟩⟩
theorem fl_X7_35 : hFl RX7 35 6 11 := ⟨RX7, TX7, 15, tyX7, rfl, rfl, by decide, hgd_at 668 (by decide +kernel) rfl, lays_X7, rfl, tyX7_ok, nmX7, by decide, by decide, by decide, by decide, fun _ => Or.inr ⟨_, rfl⟩⟩
theorem fl_X7_38 : hFl RX7 38 6 12 := ⟨RX7, TX7, 15, tyX7, rfl, rfl, by decide, hgd_at 669 (by decide +kernel) rfl, lays_X7, rfl, tyX7_ok, nmX7, by decide, by decide, by decide, by decide, fun _ => Or.inr ⟨_, rfl⟩⟩
theorem fl_X7_45 : hFl RX7 45 6 2 := ⟨RX7, TX7, 15, tyX7, rfl, rfl, by decide, hgd_at 659 (by decide +kernel) rfl, lays_X7, rfl, tyX7_ok, nmX7, by decide, by decide, by decide, by decide, fun h => absurd h (by decide)⟩
theorem fl_X7_128 : hFl RX7 128 6 13 := ⟨RX7, TX7, 15, tyX7, rfl, rfl, by decide, hgd_at 670 (by decide +kernel) rfl, lays_X7, rfl, tyX7_ok, nmX7, by decide, by decide, by decide, by decide, fun h => absurd h (by decide)⟩
theorem fl_X7_131 : hFl RX7 131 6 14 := ⟨RX7, TX7, 15, tyX7, rfl, rfl, by decide, hgd_at 671 (by decide +kernel) rfl, lays_X7, rfl, tyX7_ok, nmX7, by decide, by decide, by decide, by decide, fun h => absurd h (by decide)⟩
theorem fl_X7_151 : hFl RX7 151 6 7 := ⟨RX7, TX7, 15, tyX7, rfl, rfl, by decide, hgd_at 664 (by decide +kernel) rfl, lays_X7, rfl, tyX7_ok, nmX7, by decide, by decide, by decide, by decide, fun h => absurd h (by decide)⟩
theorem fl_X7_154 : hFl RX7 154 6 8 := ⟨RX7, TX7, 15, tyX7, rfl, rfl, by decide, hgd_at 665 (by decide +kernel) rfl, lays_X7, rfl, tyX7_ok, nmX7, by decide, by decide, by decide, by decide, fun h => absurd h (by decide)⟩
theorem ml_X6_1 : Cond.methodLink RX6 1 objectInit ∈ hgd := hgd_at 74 (by decide +kernel) rfl
theorem ml_X6_9 : Cond.methodLink RX6 9 yX4_init ∈ hgd := hgd_at 79 (by decide +kernel) rfl
theorem ml_X6_21 : Cond.methodLink RX6 21 yX1_init ∈ hgd := hgd_at 202 (by decide +kernel) rfl
theorem ml_X6_28 : Cond.methodLink RX6 28 yX3_init ∈ hgd := hgd_at 219 (by decide +kernel) rfl
theorem ml_X6_40 : Cond.methodLink RX6 40 yX1_push ∈ hgd := hgd_at 290 (by decide +kernel) rfl
theorem ml_X6_48 : Cond.methodLink RX6 48 yX4_beginAnew ∈ hgd := hgd_at 310 (by decide +kernel) rfl
theorem ml_X6_55 : Cond.methodLink RX6 55 yX4_changeLap ∈ hgd := hgd_at 318 (by decide +kernel) rfl
theorem ml_X6_65 : Cond.methodLink RX6 65 yX6_asNumber ∈ hgd := hgd_at 338 (by decide +kernel) rfl
theorem ml_X6_72 : Cond.methodLink RX6 72 yX2_of ∈ hgd := hgd_at 349 (by decide +kernel) rfl
theorem ml_X6_78 : Cond.methodLink RX6 78 yX6_checkEntry ∈ hgd := hgd_at 357 (by decide +kernel) rfl
theorem ml_X6_82 : Cond.methodLink RX6 82 yX4_admit ∈ hgd := hgd_at 381 (by decide +kernel) rfl
theorem ml_X6_85 : Cond.methodLink RX6 85 yX6_checkCall ∈ hgd := hgd_at 393 (by decide +kernel) rfl
theorem ml_X6_89 : Cond.methodLink RX6 89 yX4_markCalled ∈ hgd := hgd_at 402 (by decide +kernel) rfl
theorem ml_X6_92 : Cond.methodLink RX6 92 yX4_passMinutes ∈ hgd := hgd_at 410 (by decide +kernel) rfl
theorem ml_X6_95 : Cond.methodLink RX6 95 yX4_hasLevel ∈ hgd := hgd_at 361 (by decide +kernel) rfl
theorem ml_X6_99 : Cond.methodLink RX6 99 yX4_holderOf ∈ hgd := hgd_at 473 (by decide +kernel) rfl
theorem ml_X6_108 : Cond.methodLink RX6 108 yX4_numbered ∈ hgd := hgd_at 397 (by decide +kernel) rfl
theorem ml_X6_122 : Cond.methodLink RX6 122 yX0_isShort ∈ hgd := hgd_at 478 (by decide +kernel) rfl
theorem ml_X6_126 : Cond.methodLink RX6 126 yX0_isHolding ∈ hgd := hgd_at 398 (by decide +kernel) rfl
theorem ml_X6_132 : Cond.methodLink RX6 132 yX6_tellHolding ∈ hgd := hgd_at 479 (by decide +kernel) rfl
theorem ml_X6_151 : Cond.methodLink RX6 151 yX6_tellNumberOfAircraft ∈ hgd := hgd_at 486 (by decide +kernel) rfl
theorem ml_X6_154 : Cond.methodLink RX6 154 yX6_tellFuel ∈ hgd := hgd_at 491 (by decide +kernel) rfl
theorem ml_X6_157 : Cond.methodLink RX6 157 yX0_isOverFix ∈ hgd := hgd_at 499 (by decide +kernel) rfl
theorem ml_X6_163 : Cond.methodLink RX6 163 yX4_isFree ∈ hgd := hgd_at 500 (by decide +kernel) rfl
theorem ml_X6_169 : Cond.methodLink RX6 169 yX6_forecast ∈ hgd := hgd_at 505 (by decide +kernel) rfl
theorem ml_X6_172 : Cond.methodLink RX6 172 yX6_forecastMinutes ∈ hgd := hgd_at 515 (by decide +kernel) rfl
theorem ml_X6_175 : Cond.methodLink RX6 175 yX0_minutesUntilShort ∈ hgd := hgd_at 527 (by decide +kernel) rfl
theorem ml_X6_179 : Cond.methodLink RX6 179 yX6_isFuel ∈ hgd := hgd_at 362 (by decide +kernel) rfl
theorem ml_X6_182 : Cond.methodLink RX6 182 yX4_isFull ∈ hgd := hgd_at 365 (by decide +kernel) rfl
theorem ml_X6_185 : Cond.methodLink RX6 185 yX4_refusal ∈ hgd := hgd_at 369 (by decide +kernel) rfl
theorem ml_X6_188 : Cond.methodLink RX6 188 yX4_copyFrom ∈ hgd := hgd_at 509 (by decide +kernel) rfl
theorem ml_X6_191 : Cond.methodLink RX6 191 yX4_minutesToLanding ∈ hgd := hgd_at 535 (by decide +kernel) rfl
theorem ml_X6_195 : Cond.methodLink RX6 195 yX4_mayLand ∈ hgd := hgd_at 510 (by decide +kernel) rfl
theorem ml_X6_198 : Cond.methodLink RX6 198 yX4_passMinute ∈ hgd := hgd_at 514 (by decide +kernel) rfl
theorem ml_X6_201 : Cond.methodLink RX6 201 yX5_add ∈ hgd := hgd_at 548 (by decide +kernel) rfl
theorem ml_X6_208 : Cond.methodLink RX6 208 yX5_findFault ∈ hgd := hgd_at 560 (by decide +kernel) rfl
theorem ml_X6_211 : Cond.methodLink RX6 211 yX5_restart ∈ hgd := hgd_at 606 (by decide +kernel) rfl
theorem ml_X6_214 : Cond.methodLink RX6 214 yX5_readStrip ∈ hgd := hgd_at 607 (by decide +kernel) rfl
theorem ml_X6_217 : Cond.methodLink RX6 217 yX6_carryOutStrip ∈ hgd := hgd_at 608 (by decide +kernel) rfl
theorem ml_X6_220 : Cond.methodLink RX6 220 yX1_popInto ∈ hgd := hgd_at 616 (by decide +kernel) rfl
theorem ml_X6_224 : Cond.methodLink RX6 224 yX3_put ∈ hgd := hgd_at 624 (by decide +kernel) rfl
theorem ml_X6_228 : Cond.methodLink RX6 228 yX3_get ∈ hgd := hgd_at 637 (by decide +kernel) rfl
theorem ml_X6_236 : Cond.methodLink RX6 236 yX6_tell ∈ hgd := hgd_at 647 (by decide +kernel) rfl
theorem ml_X6_242 : Cond.methodLink RX6 242 yX6_aircraft ∈ hgd := hgd_at 648 (by decide +kernel) rfl
theorem ml_X6_245 : Cond.methodLink RX6 245 yX6_why ∈ hgd := hgd_at 649 (by decide +kernel) rfl
theorem ml_X6_248 : Cond.methodLink RX6 248 yX6_level ∈ hgd := hgd_at 650 (by decide +kernel) rfl
theorem ml_X6_253 : Cond.methodLink RX6 253 yX4_countOf ∈ hgd := hgd_at 490 (by decide +kernel) rfl
theorem ml_X0_3 : Cond.methodLink RX0 3 objectInit ∈ hgd := hgd_at 89 (by decide +kernel) rfl
theorem ml_X0_49 : Cond.methodLink RX0 49 yX0_burnPerMinute ∈ hgd := hgd_at 426 (by decide +kernel) rfl
theorem ml_X0_53 : Cond.methodLink RX0 53 yJ9_min_7cf53 ∈ hgd := hgd_at 430 (by decide +kernel) rfl
theorem ml_X1_3 : Cond.methodLink RX1 3 objectInit ∈ hgd := hgd_at 205 (by decide +kernel) rfl
theorem ml_X1_17 : Cond.methodLink RX1 17 yX4_init ∈ hgd := hgd_at 208 (by decide +kernel) rfl
theorem ml_X1_22 : Cond.methodLink RX1 22 yX1_dropOldest ∈ hgd := hgd_at 294 (by decide +kernel) rfl
theorem ml_X1_25 : Cond.methodLink RX1 25 yX4_copyFrom ∈ hgd := hgd_at 298 (by decide +kernel) rfl
theorem ml_X3_3 : Cond.methodLink RX3 3 objectInit ∈ hgd := hgd_at 222 (by decide +kernel) rfl
theorem ml_X3_21 : Cond.methodLink RX3 21 yX4_init ∈ hgd := hgd_at 224 (by decide +kernel) rfl
theorem ml_X3_22 : Cond.methodLink RX3 22 yX3_has ∈ hgd := hgd_at 628 (by decide +kernel) rfl
theorem ml_X3_26 : Cond.methodLink RX3 26 yX4_copyFrom ∈ hgd := hgd_at 632 (by decide +kernel) rfl
theorem ml_X4_3 : Cond.methodLink RX4 3 objectInit ∈ hgd := hgd_at 82 (by decide +kernel) rfl
theorem ml_X4_38 : Cond.methodLink RX4 38 yX0_init ∈ hgd := hgd_at 86 (by decide +kernel) rfl
theorem ml_X4_41 : Cond.methodLink RX4 41 yJ7_fill_53178 ∈ hgd := hgd_at 134 (by decide +kernel) rfl
theorem ml_X4_74 : Cond.methodLink RX4 74 yX4_numbered ∈ hgd := hgd_at 302 (by decide +kernel) rfl
theorem ml_X4_78 : Cond.methodLink RX4 78 yX0_copyFrom ∈ hgd := hgd_at 306 (by decide +kernel) rfl
theorem ml_X4_82 : Cond.methodLink RX4 82 yX4_holderOf ∈ hgd := hgd_at 322 (by decide +kernel) rfl
theorem ml_X4_88 : Cond.methodLink RX4 88 yX4_hasLevel ∈ hgd := hgd_at 326 (by decide +kernel) rfl
theorem ml_X4_95 : Cond.methodLink RX4 95 yX4_isFree ∈ hgd := hgd_at 373 (by decide +kernel) rfl
theorem ml_X4_103 : Cond.methodLink RX4 103 yX4_countOf ∈ hgd := hgd_at 377 (by decide +kernel) rfl
theorem ml_X4_123 : Cond.methodLink RX4 123 yX4_setHolder ∈ hgd := hgd_at 385 (by decide +kernel) rfl
theorem ml_X4_127 : Cond.methodLink RX4 127 yX4_passMinute ∈ hgd := hgd_at 414 (by decide +kernel) rfl
theorem ml_X4_131 : Cond.methodLink RX4 131 yX4_mayLand ∈ hgd := hgd_at 539 (by decide +kernel) rfl
theorem ml_X4_135 : Cond.methodLink RX4 135 yX4_burnAndFly ∈ hgd := hgd_at 418 (by decide +kernel) rfl
theorem ml_X4_138 : Cond.methodLink RX4 138 yX4_divertStarved ∈ hgd := hgd_at 437 (by decide +kernel) rfl
theorem ml_X4_141 : Cond.methodLink RX4 141 yX4_landOne ∈ hgd := hgd_at 449 (by decide +kernel) rfl
theorem ml_X4_144 : Cond.methodLink RX4 144 yX4_goDownLadder ∈ hgd := hgd_at 465 (by decide +kernel) rfl
theorem ml_X4_147 : Cond.methodLink RX4 147 yX0_burnForMinute ∈ hgd := hgd_at 422 (by decide +kernel) rfl
theorem ml_X4_150 : Cond.methodLink RX4 150 yX0_flyMinute ∈ hgd := hgd_at 433 (by decide +kernel) rfl
theorem ml_X4_153 : Cond.methodLink RX4 153 yX0_mustDivert ∈ hgd := hgd_at 441 (by decide +kernel) rfl
theorem ml_X4_156 : Cond.methodLink RX4 156 yX4_leave ∈ hgd := hgd_at 445 (by decide +kernel) rfl
theorem ml_X4_160 : Cond.methodLink RX4 160 yX4_nextToLand ∈ hgd := hgd_at 453 (by decide +kernel) rfl
theorem ml_X4_167 : Cond.methodLink RX4 167 yX0_isOverFix ∈ hgd := hgd_at 457 (by decide +kernel) rfl
theorem ml_X4_170 : Cond.methodLink RX4 170 yX0_isShort ∈ hgd := hgd_at 461 (by decide +kernel) rfl
theorem ml_X5_3 : Cond.methodLink RX5 3 objectInit ∈ hgd := hgd_at 238 (by decide +kernel) rfl
theorem ml_X5_25 : Cond.methodLink RX5 25 yX5_restart ∈ hgd := hgd_at 564 (by decide +kernel) rfl
theorem ml_X5_28 : Cond.methodLink RX5 28 yX5_readStrip ∈ hgd := hgd_at 568 (by decide +kernel) rfl
theorem ml_X5_32 : Cond.methodLink RX5 32 yX5_peek ∈ hgd := hgd_at 572 (by decide +kernel) rfl
theorem ml_X5_40 : Cond.methodLink RX5 40 yX5_readEntry ∈ hgd := hgd_at 576 (by decide +kernel) rfl
theorem ml_X5_43 : Cond.methodLink RX5 43 yX5_readNumber ∈ hgd := hgd_at 591 (by decide +kernel) rfl
theorem ml_X5_50 : Cond.methodLink RX5 50 yX5_fail ∈ hgd := hgd_at 584 (by decide +kernel) rfl
theorem ml_X5_54 : Cond.methodLink RX5 54 yX5_expect ∈ hgd := hgd_at 598 (by decide +kernel) rfl
theorem ml_X5_58 : Cond.methodLink RX5 58 yX5_readKind ∈ hgd := hgd_at 580 (by decide +kernel) rfl
theorem ml_X5_80 : Cond.methodLink RX5 80 yX5_isDigit ∈ hgd := hgd_at 595 (by decide +kernel) rfl
theorem ml_L_9 : Cond.methodLink RL 9 yX6_init ∈ hgd := hgd_at 71 (by decide +kernel) rfl
theorem ml_L_12 : Cond.methodLink RL 12 yX7_init ∈ hgd := hgd_at 653 (by decide +kernel) rfl
theorem ml_L_13 : Cond.methodLink RL 13 yX6_begin ∈ hgd := hgd_at 286 (by decide +kernel) rfl
theorem ml_L_17 : Cond.methodLink RL 17 yX7_begin ∈ hgd := hgd_at 703 (by decide +kernel) rfl
theorem ml_L_18 : Cond.methodLink RL 18 yX6_setLap ∈ hgd := hgd_at 314 (by decide +kernel) rfl
theorem ml_L_21 : Cond.methodLink RL 21 yX7_setLap ∈ hgd := hgd_at 714 (by decide +kernel) rfl
theorem ml_L_22 : Cond.methodLink RL 22 yX6_setLimit ∈ hgd := hgd_at 330 (by decide +kernel) rfl
theorem ml_L_25 : Cond.methodLink RL 25 yX7_setLimit ∈ hgd := hgd_at 725 (by decide +kernel) rfl
theorem ml_L_26 : Cond.methodLink RL 26 yX6_setRunway ∈ hgd := hgd_at 334 (by decide +kernel) rfl
theorem ml_L_30 : Cond.methodLink RL 30 yX7_setRunway ∈ hgd := hgd_at 729 (by decide +kernel) rfl
theorem ml_L_31 : Cond.methodLink RL 31 yX6_setLadder ∈ hgd := hgd_at 341 (by decide +kernel) rfl
theorem ml_L_34 : Cond.methodLink RL 34 yX7_setLadder ∈ hgd := hgd_at 737 (by decide +kernel) rfl
theorem ml_L_35 : Cond.methodLink RL 35 yX6_enter ∈ hgd := hgd_at 345 (by decide +kernel) rfl
theorem ml_L_39 : Cond.methodLink RL 39 yX7_enter ∈ hgd := hgd_at 741 (by decide +kernel) rfl
theorem ml_L_40 : Cond.methodLink RL 40 yX6_call ∈ hgd := hgd_at 389 (by decide +kernel) rfl
theorem ml_L_43 : Cond.methodLink RL 43 yX7_call ∈ hgd := hgd_at 769 (by decide +kernel) rfl
theorem ml_L_44 : Cond.methodLink RL 44 yX6_pass ∈ hgd := hgd_at 406 (by decide +kernel) rfl
theorem ml_L_47 : Cond.methodLink RL 47 yX7_pass ∈ hgd := hgd_at 781 (by decide +kernel) rfl
theorem ml_L_48 : Cond.methodLink RL 48 yX6_level ∈ hgd := hgd_at 469 (by decide +kernel) rfl
theorem ml_L_51 : Cond.methodLink RL 51 yX7_level ∈ hgd := hgd_at 817 (by decide +kernel) rfl
theorem ml_L_52 : Cond.methodLink RL 52 yX6_aircraft ∈ hgd := hgd_at 474 (by decide +kernel) rfl
theorem ml_L_56 : Cond.methodLink RL 56 yX7_aircraft ∈ hgd := hgd_at 821 (by decide +kernel) rfl
theorem ml_L_57 : Cond.methodLink RL 57 yX6_tell ∈ hgd := hgd_at 482 (by decide +kernel) rfl
theorem ml_L_60 : Cond.methodLink RL 60 yX7_tell ∈ hgd := hgd_at 829 (by decide +kernel) rfl
theorem ml_L_61 : Cond.methodLink RL 61 yX6_why ∈ hgd := hgd_at 495 (by decide +kernel) rfl
theorem ml_L_64 : Cond.methodLink RL 64 yX7_why ∈ hgd := hgd_at 841 (by decide +kernel) rfl
theorem ml_L_65 : Cond.methodLink RL 65 yX6_minutesLeft ∈ hgd := hgd_at 501 (by decide +kernel) rfl
theorem ml_L_68 : Cond.methodLink RL 68 yX7_minutesLeft ∈ hgd := hgd_at 849 (by decide +kernel) rfl
theorem ml_L_69 : Cond.methodLink RL 69 yX6_landsWith ∈ hgd := hgd_at 519 (by decide +kernel) rfl
theorem ml_L_72 : Cond.methodLink RL 72 yX7_landsWith ∈ hgd := hgd_at 873 (by decide +kernel) rfl
theorem ml_L_73 : Cond.methodLink RL 73 yX6_endurance ∈ hgd := hgd_at 523 (by decide +kernel) rfl
theorem ml_L_76 : Cond.methodLink RL 76 yX7_endurance ∈ hgd := hgd_at 877 (by decide +kernel) rfl
theorem ml_L_77 : Cond.methodLink RL 77 yX6_bestLevel ∈ hgd := hgd_at 531 (by decide +kernel) rfl
theorem ml_L_80 : Cond.methodLink RL 80 yX7_bestLevel ∈ hgd := hgd_at 881 (by decide +kernel) rfl
theorem ml_L_81 : Cond.methodLink RL 81 yX6_lands ∈ hgd := hgd_at 540 (by decide +kernel) rfl
theorem ml_L_84 : Cond.methodLink RL 84 yX7_lands ∈ hgd := hgd_at 885 (by decide +kernel) rfl
theorem ml_L_85 : Cond.methodLink RL 85 yX6_append ∈ hgd := hgd_at 544 (by decide +kernel) rfl
theorem ml_L_88 : Cond.methodLink RL 88 yX7_append ∈ hgd := hgd_at 889 (by decide +kernel) rfl
theorem ml_L_89 : Cond.methodLink RL 89 yX6_clearText ∈ hgd := hgd_at 552 (by decide +kernel) rfl
theorem ml_L_93 : Cond.methodLink RL 93 yX7_clearText ∈ hgd := hgd_at 893 (by decide +kernel) rfl
theorem ml_L_94 : Cond.methodLink RL 94 yX6_faultPosition ∈ hgd := hgd_at 556 (by decide +kernel) rfl
theorem ml_L_97 : Cond.methodLink RL 97 yX7_faultPosition ∈ hgd := hgd_at 897 (by decide +kernel) rfl
theorem ml_L_98 : Cond.methodLink RL 98 yX6_run ∈ hgd := hgd_at 602 (by decide +kernel) rfl
theorem ml_L_101 : Cond.methodLink RL 101 yX7_run ∈ hgd := hgd_at 925 (by decide +kernel) rfl
theorem ml_L_102 : Cond.methodLink RL 102 yX6_undo ∈ hgd := hgd_at 612 (by decide +kernel) rfl
theorem ml_L_105 : Cond.methodLink RL 105 yX7_undo ∈ hgd := hgd_at 933 (by decide +kernel) rfl
theorem ml_L_106 : Cond.methodLink RL 106 yX6_keep ∈ hgd := hgd_at 620 (by decide +kernel) rfl
theorem ml_L_109 : Cond.methodLink RL 109 yX7_keep ∈ hgd := hgd_at 937 (by decide +kernel) rfl
theorem ml_L_110 : Cond.methodLink RL 110 yX6_restore ∈ hgd := hgd_at 633 (by decide +kernel) rfl
theorem ml_L_113 : Cond.methodLink RL 113 yX7_restore ∈ hgd := hgd_at 941 (by decide +kernel) rfl
theorem ml_L_114 : Cond.methodLink RL 114 yX6_checksum ∈ hgd := hgd_at 641 (by decide +kernel) rfl
theorem ml_L_118 : Cond.methodLink RL 118 yX7_checksum ∈ hgd := hgd_at 945 (by decide +kernel) rfl
theorem ml_X7_1 : Cond.methodLink RX7 1 objectInit ∈ hgd := hgd_at 656 (by decide +kernel) rfl
theorem ml_X7_41 : Cond.methodLink RX7 41 yX7_in ∈ hgd := hgd_at 707 (by decide +kernel) rfl
theorem ml_X7_49 : Cond.methodLink RX7 49 yX7_records ∈ hgd := hgd_at 710 (by decide +kernel) rfl
theorem ml_X7_52 : Cond.methodLink RX7 52 yX7_at ∈ hgd := hgd_at 718 (by decide +kernel) rfl
theorem ml_X7_56 : Cond.methodLink RX7 56 yX7_puts ∈ hgd := hgd_at 721 (by decide +kernel) rfl
theorem ml_X7_60 : Cond.methodLink RX7 60 yX7_opens ∈ hgd := hgd_at 733 (by decide +kernel) rfl
theorem ml_X7_64 : Cond.methodLink RX7 64 yX7_isLevel ∈ hgd := hgd_at 749 (by decide +kernel) rfl
theorem ml_X7_68 : Cond.methodLink RX7 68 yX7_on ∈ hgd := hgd_at 757 (by decide +kernel) rfl
theorem ml_X7_71 : Cond.methodLink RX7 71 yX7_holding ∈ hgd := hgd_at 761 (by decide +kernel) rfl
theorem ml_X7_75 : Cond.methodLink RX7 75 yX7_enterWrong ∈ hgd := hgd_at 745 (by decide +kernel) rfl
theorem ml_X7_79 : Cond.methodLink RX7 79 yX7_refusal ∈ hgd := hgd_at 753 (by decide +kernel) rfl
theorem ml_X7_82 : Cond.methodLink RX7 82 yX7_enters ∈ hgd := hgd_at 765 (by decide +kernel) rfl
theorem ml_X7_85 : Cond.methodLink RX7 85 yX7_isCraft ∈ hgd := hgd_at 777 (by decide +kernel) rfl
theorem ml_X7_88 : Cond.methodLink RX7 88 yX7_callWrong ∈ hgd := hgd_at 773 (by decide +kernel) rfl
theorem ml_X7_91 : Cond.methodLink RX7 91 yX7_burn ∈ hgd := hgd_at 797 (by decide +kernel) rfl
theorem ml_X7_94 : Cond.methodLink RX7 94 yX7_leaves ∈ hgd := hgd_at 801 (by decide +kernel) rfl
theorem ml_X7_98 : Cond.methodLink RX7 98 yX7_isOver ∈ hgd := hgd_at 809 (by decide +kernel) rfl
theorem ml_X7_101 : Cond.methodLink RX7 101 yX7_isShort ∈ hgd := hgd_at 813 (by decide +kernel) rfl
theorem ml_X7_104 : Cond.methodLink RX7 104 yX7_burns ∈ hgd := hgd_at 793 (by decide +kernel) rfl
theorem ml_X7_107 : Cond.methodLink RX7 107 yX7_lander ∈ hgd := hgd_at 805 (by decide +kernel) rfl
theorem ml_X7_110 : Cond.methodLink RX7 110 yX7_passes ∈ hgd := hgd_at 789 (by decide +kernel) rfl
theorem ml_X7_113 : Cond.methodLink RX7 113 yX7_minutesPass ∈ hgd := hgd_at 785 (by decide +kernel) rfl
theorem ml_X7_116 : Cond.methodLink RX7 116 yX7_craftTells ∈ hgd := hgd_at 825 (by decide +kernel) rfl
theorem ml_X7_119 : Cond.methodLink RX7 119 yX7_many ∈ hgd := hgd_at 837 (by decide +kernel) rfl
theorem ml_X7_122 : Cond.methodLink RX7 122 yX7_tells ∈ hgd := hgd_at 833 (by decide +kernel) rfl
theorem ml_X7_125 : Cond.methodLink RX7 125 yX7_whyOf ∈ hgd := hgd_at 845 (by decide +kernel) rfl
theorem ml_X7_134 : Cond.methodLink RX7 134 yX7_keeps ∈ hgd := hgd_at 861 (by decide +kernel) rfl
theorem ml_X7_138 : Cond.methodLink RX7 138 yX7_landsLater ∈ hgd := hgd_at 865 (by decide +kernel) rfl
theorem ml_X7_142 : Cond.methodLink RX7 142 yX7_comesBack ∈ hgd := hgd_at 869 (by decide +kernel) rfl
theorem ml_X7_145 : Cond.methodLink RX7 145 yX7_forecasts ∈ hgd := hgd_at 857 (by decide +kernel) rfl
theorem ml_X7_148 : Cond.methodLink RX7 148 yX7_minutesOf ∈ hgd := hgd_at 853 (by decide +kernel) rfl
theorem ml_X7_157 : Cond.methodLink RX7 157 yX7_here ∈ hgd := hgd_at 913 (by decide +kernel) rfl
theorem ml_X7_160 : Cond.methodLink RX7 160 yX7_digit ∈ hgd := hgd_at 921 (by decide +kernel) rfl
theorem ml_X7_163 : Cond.methodLink RX7 163 yX7_takes ∈ hgd := hgd_at 909 (by decide +kernel) rfl
theorem ml_X7_166 : Cond.methodLink RX7 166 yX7_isNumber ∈ hgd := hgd_at 917 (by decide +kernel) rfl
theorem ml_X7_169 : Cond.methodLink RX7 169 yX7_isStrip ∈ hgd := hgd_at 905 (by decide +kernel) rfl
theorem ml_X7_173 : Cond.methodLink RX7 173 yX7_isText ∈ hgd := hgd_at 901 (by decide +kernel) rfl
theorem ml_X7_176 : Cond.methodLink RX7 176 yX7_carriesOut ∈ hgd := hgd_at 929 (by decide +kernel) rfl
theorem ml_X7_183 : Cond.methodLink RX7 183 yX7_more ∈ hgd := hgd_at 950 (by decide +kernel) rfl
theorem oi_1 : Cond.instanceMethod objectInit ∈ hgd := hgd_at 75 (by decide +kernel) rfl
theorem oi_2 : Cond.code objectInit ⟨#[0xb1]⟩ 1 none ∈ hgd := hgd_at 76 (by decide +kernel) rfl
theorem ac_int : Cond.arrayClass .int ∈ hgd := hgd_at 133 (by decide +kernel) rfl
theorem ac_boolean : Cond.arrayClass .boolean ∈ hgd := hgd_at 232 (by decide +kernel) rfl
theorem ac_char : Cond.arrayClass .char ∈ hgd := hgd_at 269 (by decide +kernel) rfl
theorem cl_X6_7 : Cond.classLink RX6 7 RX4 ∈ hgd := hgd_at 77 (by decide +kernel) rfl
theorem cL_X6_7 : hCl RX6 7 3 := ⟨RX4, TX4, 16, tyX4, rfl, rfl, cl_X6_7, hgd_at 78 (by decide +kernel) rfl, hgd_at 59 (by decide +kernel) rfl, lays_X4, tyX4_ok, by decide +kernel⟩
theorem cl_X6_19 : Cond.classLink RX6 19 RX1 ∈ hgd := hgd_at 200 (by decide +kernel) rfl
theorem cL_X6_19 : hCl RX6 19 1 := ⟨RX1, TX1, 2, tyX1, rfl, rfl, cl_X6_19, hgd_at 201 (by decide +kernel) rfl, hgd_at 64 (by decide +kernel) rfl, lays_X1, tyX1_ok, by decide +kernel⟩
theorem cl_X6_26 : Cond.classLink RX6 26 RX3 ∈ hgd := hgd_at 217 (by decide +kernel) rfl
theorem cL_X6_26 : hCl RX6 26 2 := ⟨RX3, TX3, 2, tyX3, rfl, rfl, cl_X6_26, hgd_at 218 (by decide +kernel) rfl, hgd_at 65 (by decide +kernel) rfl, lays_X3, tyX3_ok, by decide +kernel⟩
theorem cl_X6_33 : Cond.classLink RX6 33 RX5 ∈ hgd := hgd_at 233 (by decide +kernel) rfl
theorem cL_X6_33 : hCl RX6 33 4 := ⟨RX5, TX5, 8, tyX5, rfl, rfl, cl_X6_33, hgd_at 234 (by decide +kernel) rfl, hgd_at 66 (by decide +kernel) rfl, lays_X5, tyX5_ok, by decide +kernel⟩
theorem cl_X1_9 : Cond.classLink RX1 9 RX4 ∈ hgd := hgd_at 206 (by decide +kernel) rfl
theorem cL_X1_9 : hCl RX1 9 3 := ⟨RX4, TX4, 16, tyX4, rfl, rfl, cl_X1_9, hgd_at 78 (by decide +kernel) rfl, hgd_at 59 (by decide +kernel) rfl, lays_X4, tyX4_ok, by decide +kernel⟩
theorem cl_X3_9 : Cond.classLink RX3 9 RX4 ∈ hgd := hgd_at 223 (by decide +kernel) rfl
theorem cL_X3_9 : hCl RX3 9 3 := ⟨RX4, TX4, 16, tyX4, rfl, rfl, cl_X3_9, hgd_at 78 (by decide +kernel) rfl, hgd_at 59 (by decide +kernel) rfl, lays_X4, tyX4_ok, by decide +kernel⟩
theorem cl_X4_9 : Cond.classLink RX4 9 RX0 ∈ hgd := hgd_at 83 (by decide +kernel) rfl
theorem cL_X4_9 : hCl RX4 9 0 := ⟨RX0, TX0, 8, tyX0, rfl, rfl, cl_X4_9, hgd_at 85 (by decide +kernel) rfl, hgd_at 60 (by decide +kernel) rfl, lays_X0, tyX0_ok, by decide +kernel⟩
theorem cl_L_7 : Cond.classLink RL 7 RX6 ∈ hgd := hgd_at 69 (by decide +kernel) rfl
theorem cL_L_7 : hCl RL 7 5 := ⟨RX6, TX6, 5, tyX6, rfl, rfl, cl_L_7, hgd_at 70 (by decide +kernel) rfl, hgd_at 58 (by decide +kernel) rfl, lays_X6, tyX6_ok, by decide +kernel⟩
theorem cl_L_10 : Cond.classLink RL 10 RX7 ∈ hgd := hgd_at 651 (by decide +kernel) rfl
theorem cL_L_10 : hCl RL 10 6 := ⟨RX7, TX7, 15, tyX7, rfl, rfl, cl_L_10, hgd_at 652 (by decide +kernel) rfl, hgd_at 67 (by decide +kernel) rfl, lays_X7, tyX7_ok, by decide +kernel⟩
theorem kl_X6_232 : Cond.constantLong RX6 232 157 ∈ hgd := hgd_at 645 (by decide +kernel) rfl
theorem kl_X6_234 : Cond.constantLong RX6 234 31 ∈ hgd := hgd_at 646 (by decide +kernel) rfl
theorem kl_X7_181 : Cond.constantLong RX7 181 157 ∈ hgd := hgd_at 949 (by decide +kernel) rfl
theorem kl_X7_179 : Cond.constantLong RX7 179 31 ∈ hgd := hgd_at 953 (by decide +kernel) rfl
theorem ff_0_0 : hFin 0 0 := ⟨RX0, TX0, 8, rfl, rfl⟩
theorem fn_0_1 : hNfin 0 1 := ⟨RX0, TX0, 8, rfl, rfl⟩
theorem fn_0_2 : hNfin 0 2 := ⟨RX0, TX0, 8, rfl, rfl⟩
theorem fn_0_3 : hNfin 0 3 := ⟨RX0, TX0, 8, rfl, rfl⟩
theorem fn_0_4 : hNfin 0 4 := ⟨RX0, TX0, 8, rfl, rfl⟩
theorem fn_0_5 : hNfin 0 5 := ⟨RX0, TX0, 8, rfl, rfl⟩
theorem fn_0_6 : hNfin 0 6 := ⟨RX0, TX0, 8, rfl, rfl⟩
theorem fn_0_7 : hNfin 0 7 := ⟨RX0, TX0, 8, rfl, rfl⟩
theorem ff_1_0 : hFin 1 0 := ⟨RX1, TX1, 2, rfl, rfl⟩
theorem fn_1_1 : hNfin 1 1 := ⟨RX1, TX1, 2, rfl, rfl⟩
theorem ff_2_0 : hFin 2 0 := ⟨RX3, TX3, 2, rfl, rfl⟩
theorem ff_2_1 : hFin 2 1 := ⟨RX3, TX3, 2, rfl, rfl⟩
theorem ff_3_0 : hFin 3 0 := ⟨RX4, TX4, 16, rfl, rfl⟩
theorem ff_3_1 : hFin 3 1 := ⟨RX4, TX4, 16, rfl, rfl⟩
theorem fn_3_2 : hNfin 3 2 := ⟨RX4, TX4, 16, rfl, rfl⟩
theorem fn_3_3 : hNfin 3 3 := ⟨RX4, TX4, 16, rfl, rfl⟩
theorem fn_3_4 : hNfin 3 4 := ⟨RX4, TX4, 16, rfl, rfl⟩
theorem fn_3_5 : hNfin 3 5 := ⟨RX4, TX4, 16, rfl, rfl⟩
theorem fn_3_6 : hNfin 3 6 := ⟨RX4, TX4, 16, rfl, rfl⟩
theorem fn_3_7 : hNfin 3 7 := ⟨RX4, TX4, 16, rfl, rfl⟩
theorem fn_3_8 : hNfin 3 8 := ⟨RX4, TX4, 16, rfl, rfl⟩
theorem fn_3_9 : hNfin 3 9 := ⟨RX4, TX4, 16, rfl, rfl⟩
theorem fn_3_10 : hNfin 3 10 := ⟨RX4, TX4, 16, rfl, rfl⟩
theorem fn_3_11 : hNfin 3 11 := ⟨RX4, TX4, 16, rfl, rfl⟩
theorem fn_3_12 : hNfin 3 12 := ⟨RX4, TX4, 16, rfl, rfl⟩
theorem fn_3_13 : hNfin 3 13 := ⟨RX4, TX4, 16, rfl, rfl⟩
theorem fn_3_14 : hNfin 3 14 := ⟨RX4, TX4, 16, rfl, rfl⟩
theorem fn_3_15 : hNfin 3 15 := ⟨RX4, TX4, 16, rfl, rfl⟩
theorem ff_4_0 : hFin 4 0 := ⟨RX5, TX5, 8, rfl, rfl⟩
theorem fn_4_1 : hNfin 4 1 := ⟨RX5, TX5, 8, rfl, rfl⟩
theorem fn_4_2 : hNfin 4 2 := ⟨RX5, TX5, 8, rfl, rfl⟩
theorem fn_4_3 : hNfin 4 3 := ⟨RX5, TX5, 8, rfl, rfl⟩
theorem fn_4_4 : hNfin 4 4 := ⟨RX5, TX5, 8, rfl, rfl⟩
theorem fn_4_5 : hNfin 4 5 := ⟨RX5, TX5, 8, rfl, rfl⟩
theorem fn_4_6 : hNfin 4 6 := ⟨RX5, TX5, 8, rfl, rfl⟩
theorem fn_4_7 : hNfin 4 7 := ⟨RX5, TX5, 8, rfl, rfl⟩
theorem ff_5_0 : hFin 5 0 := ⟨RX6, TX6, 5, rfl, rfl⟩
theorem ff_5_1 : hFin 5 1 := ⟨RX6, TX6, 5, rfl, rfl⟩
theorem ff_5_2 : hFin 5 2 := ⟨RX6, TX6, 5, rfl, rfl⟩
theorem ff_5_3 : hFin 5 3 := ⟨RX6, TX6, 5, rfl, rfl⟩
theorem ff_5_4 : hFin 5 4 := ⟨RX6, TX6, 5, rfl, rfl⟩
theorem ff_6_0 : hFin 6 0 := ⟨RX7, TX7, 15, rfl, rfl⟩
theorem ff_6_1 : hFin 6 1 := ⟨RX7, TX7, 15, rfl, rfl⟩
theorem fn_6_2 : hNfin 6 2 := ⟨RX7, TX7, 15, rfl, rfl⟩
theorem ff_6_3 : hFin 6 3 := ⟨RX7, TX7, 15, rfl, rfl⟩
theorem ff_6_4 : hFin 6 4 := ⟨RX7, TX7, 15, rfl, rfl⟩
theorem ff_6_5 : hFin 6 5 := ⟨RX7, TX7, 15, rfl, rfl⟩
theorem ff_6_6 : hFin 6 6 := ⟨RX7, TX7, 15, rfl, rfl⟩
theorem fn_6_7 : hNfin 6 7 := ⟨RX7, TX7, 15, rfl, rfl⟩
theorem fn_6_8 : hNfin 6 8 := ⟨RX7, TX7, 15, rfl, rfl⟩
theorem ff_6_9 : hFin 6 9 := ⟨RX7, TX7, 15, rfl, rfl⟩
theorem ff_6_10 : hFin 6 10 := ⟨RX7, TX7, 15, rfl, rfl⟩
theorem ff_6_11 : hFin 6 11 := ⟨RX7, TX7, 15, rfl, rfl⟩
theorem ff_6_12 : hFin 6 12 := ⟨RX7, TX7, 15, rfl, rfl⟩
theorem fn_6_13 : hNfin 6 13 := ⟨RX7, TX7, 15, rfl, rfl⟩
theorem fn_6_14 : hNfin 6 14 := ⟨RX7, TX7, 15, rfl, rfl⟩
