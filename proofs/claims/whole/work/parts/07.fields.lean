theorem gf_X7_12 : gv_F RX7 12 7 0 := ⟨RX7, TX7, 10, tyX7, rfl, by decide, gi_X7, (gv_in 232 (by decide +kernel) rfl), tyX7_ok, nmX7⟩
theorem gp_X7_12 {v : Value} (h1 : narrow (tyX7 0) v = v) (h2 : fits (tyX7 0) v = true) (h3 : (TX7 0).2.2.2 = false ∨ (TX7 0).1 = RX7) : gv_P RX7 12 7 0 v := ⟨RX7, TX7, 10, tyX7, rfl, by decide, gi_X7, (gv_in 232 (by decide +kernel) rfl), tyX7_ok, nmX7, h1, h2, h3⟩
theorem gf_X7_19 : gv_F RX7 19 7 1 := ⟨RX7, TX7, 10, tyX7, rfl, by decide, gi_X7, (gv_in 233 (by decide +kernel) rfl), tyX7_ok, nmX7⟩
theorem gp_X7_19 {v : Value} (h1 : narrow (tyX7 1) v = v) (h2 : fits (tyX7 1) v = true) (h3 : (TX7 1).2.2.2 = false ∨ (TX7 1).1 = RX7) : gv_P RX7 19 7 1 v := ⟨RX7, TX7, 10, tyX7, rfl, by decide, gi_X7, (gv_in 233 (by decide +kernel) rfl), tyX7_ok, nmX7, h1, h2, h3⟩
theorem gf_X7_23 : gv_F RX7 23 7 2 := ⟨RX7, TX7, 10, tyX7, rfl, by decide, gi_X7, (gv_in 234 (by decide +kernel) rfl), tyX7_ok, nmX7⟩
theorem gp_X7_23 {v : Value} (h1 : narrow (tyX7 2) v = v) (h2 : fits (tyX7 2) v = true) (h3 : (TX7 2).2.2.2 = false ∨ (TX7 2).1 = RX7) : gv_P RX7 23 7 2 v := ⟨RX7, TX7, 10, tyX7, rfl, by decide, gi_X7, (gv_in 234 (by decide +kernel) rfl), tyX7_ok, nmX7, h1, h2, h3⟩
theorem gf_X7_29 : gv_F RX7 29 7 3 := ⟨RX7, TX7, 10, tyX7, rfl, by decide, gi_X7, (gv_in 235 (by decide +kernel) rfl), tyX7_ok, nmX7⟩
theorem gp_X7_29 {v : Value} (h1 : narrow (tyX7 3) v = v) (h2 : fits (tyX7 3) v = true) (h3 : (TX7 3).2.2.2 = false ∨ (TX7 3).1 = RX7) : gv_P RX7 29 7 3 v := ⟨RX7, TX7, 10, tyX7, rfl, by decide, gi_X7, (gv_in 235 (by decide +kernel) rfl), tyX7_ok, nmX7, h1, h2, h3⟩
theorem gf_X7_36 : gv_F RX7 36 7 4 := ⟨RX7, TX7, 10, tyX7, rfl, by decide, gi_X7, (gv_in 236 (by decide +kernel) rfl), tyX7_ok, nmX7⟩
theorem gp_X7_36 {v : Value} (h1 : narrow (tyX7 4) v = v) (h2 : fits (tyX7 4) v = true) (h3 : (TX7 4).2.2.2 = false ∨ (TX7 4).1 = RX7) : gv_P RX7 36 7 4 v := ⟨RX7, TX7, 10, tyX7, rfl, by decide, gi_X7, (gv_in 236 (by decide +kernel) rfl), tyX7_ok, nmX7, h1, h2, h3⟩
theorem gf_X7_40 : gv_F RX7 40 7 5 := ⟨RX7, TX7, 10, tyX7, rfl, by decide, gi_X7, (gv_in 237 (by decide +kernel) rfl), tyX7_ok, nmX7⟩
theorem gp_X7_40 {v : Value} (h1 : narrow (tyX7 5) v = v) (h2 : fits (tyX7 5) v = true) (h3 : (TX7 5).2.2.2 = false ∨ (TX7 5).1 = RX7) : gv_P RX7 40 7 5 v := ⟨RX7, TX7, 10, tyX7, rfl, by decide, gi_X7, (gv_in 237 (by decide +kernel) rfl), tyX7_ok, nmX7, h1, h2, h3⟩
theorem gf_X7_44 : gv_F RX7 44 7 6 := ⟨RX7, TX7, 10, tyX7, rfl, by decide, gi_X7, (gv_in 238 (by decide +kernel) rfl), tyX7_ok, nmX7⟩
theorem gp_X7_44 {v : Value} (h1 : narrow (tyX7 6) v = v) (h2 : fits (tyX7 6) v = true) (h3 : (TX7 6).2.2.2 = false ∨ (TX7 6).1 = RX7) : gv_P RX7 44 7 6 v := ⟨RX7, TX7, 10, tyX7, rfl, by decide, gi_X7, (gv_in 238 (by decide +kernel) rfl), tyX7_ok, nmX7, h1, h2, h3⟩
theorem gf_X7_51 : gv_F RX7 51 7 7 := ⟨RX7, TX7, 10, tyX7, rfl, by decide, gi_X7, (gv_in 239 (by decide +kernel) rfl), tyX7_ok, nmX7⟩
theorem gp_X7_51 {v : Value} (h1 : narrow (tyX7 7) v = v) (h2 : fits (tyX7 7) v = true) (h3 : (TX7 7).2.2.2 = false ∨ (TX7 7).1 = RX7) : gv_P RX7 51 7 7 v := ⟨RX7, TX7, 10, tyX7, rfl, by decide, gi_X7, (gv_in 239 (by decide +kernel) rfl), tyX7_ok, nmX7, h1, h2, h3⟩
theorem gf_X7_58 : gv_F RX7 58 7 8 := ⟨RX7, TX7, 10, tyX7, rfl, by decide, gi_X7, (gv_in 240 (by decide +kernel) rfl), tyX7_ok, nmX7⟩
theorem gp_X7_58 {v : Value} (h1 : narrow (tyX7 8) v = v) (h2 : fits (tyX7 8) v = true) (h3 : (TX7 8).2.2.2 = false ∨ (TX7 8).1 = RX7) : gv_P RX7 58 7 8 v := ⟨RX7, TX7, 10, tyX7, rfl, by decide, gi_X7, (gv_in 240 (by decide +kernel) rfl), tyX7_ok, nmX7, h1, h2, h3⟩
theorem gf_X7_65 : gv_F RX7 65 7 9 := ⟨RX7, TX7, 10, tyX7, rfl, by decide, gi_X7, (gv_in 241 (by decide +kernel) rfl), tyX7_ok, nmX7⟩
theorem gp_X7_65 {v : Value} (h1 : narrow (tyX7 9) v = v) (h2 : fits (tyX7 9) v = true) (h3 : (TX7 9).2.2.2 = false ∨ (TX7 9).1 = RX7) : gv_P RX7 65 7 9 v := ⟨RX7, TX7, 10, tyX7, rfl, by decide, gi_X7, (gv_in 241 (by decide +kernel) rfl), tyX7_ok, nmX7, h1, h2, h3⟩
theorem gf_X7_73 : gv_F RX7 73 3 1 := ⟨RX3, TX3, 6, tyX3, rfl, by decide, gi_X3, (gv_in 65 (by decide +kernel) rfl), tyX3_ok, nmX3⟩
theorem gp_X7_73 {v : Value} (h1 : narrow (tyX3 1) v = v) (h2 : fits (tyX3 1) v = true) (h3 : (TX3 1).2.2.2 = false ∨ (TX3 1).1 = RX7) : gv_P RX7 73 3 1 v := ⟨RX3, TX3, 6, tyX3, rfl, by decide, gi_X3, (gv_in 65 (by decide +kernel) rfl), tyX3_ok, nmX3, h1, h2, h3⟩
theorem gf_X7_85 : gv_F RX7 85 2 3 := ⟨RX2, TX2, 4, tyX2, rfl, by decide, gi_X2, (gv_in 136 (by decide +kernel) rfl), tyX2_ok, nmX2⟩
theorem gp_X7_85 {v : Value} (h1 : narrow (tyX2 3) v = v) (h2 : fits (tyX2 3) v = true) (h3 : (TX2 3).2.2.2 = false ∨ (TX2 3).1 = RX7) : gv_P RX7 85 2 3 v := ⟨RX2, TX2, 4, tyX2, rfl, by decide, gi_X2, (gv_in 136 (by decide +kernel) rfl), tyX2_ok, nmX2, h1, h2, h3⟩
theorem gf_X7_88 : gv_F RX7 88 5 2 := ⟨RX5, TX5, 3, tyX5, rfl, by decide, gi_X5, (gv_in 157 (by decide +kernel) rfl), tyX5_ok, nmX5⟩
theorem gp_X7_88 {v : Value} (h1 : narrow (tyX5 2) v = v) (h2 : fits (tyX5 2) v = true) (h3 : (TX5 2).2.2.2 = false ∨ (TX5 2).1 = RX7) : gv_P RX7 88 5 2 v := ⟨RX5, TX5, 3, tyX5, rfl, by decide, gi_X5, (gv_in 157 (by decide +kernel) rfl), tyX5_ok, nmX5, h1, h2, h3⟩
theorem gf_X7_93 : gv_F RX7 93 4 1 := ⟨RX4, TX4, 5, tyX4, rfl, by decide, gi_X4, (gv_in 106 (by decide +kernel) rfl), tyX4_ok, nmX4⟩
theorem gp_X7_93 {v : Value} (h1 : narrow (tyX4 1) v = v) (h2 : fits (tyX4 1) v = true) (h3 : (TX4 1).2.2.2 = false ∨ (TX4 1).1 = RX7) : gv_P RX7 93 4 1 v := ⟨RX4, TX4, 5, tyX4, rfl, by decide, gi_X4, (gv_in 106 (by decide +kernel) rfl), tyX4_ok, nmX4, h1, h2, h3⟩
theorem gf_X7_100 : gv_F RX7 100 4 2 := ⟨RX4, TX4, 5, tyX4, rfl, by decide, gi_X4, (gv_in 109 (by decide +kernel) rfl), tyX4_ok, nmX4⟩
theorem gp_X7_100 {v : Value} (h1 : narrow (tyX4 2) v = v) (h2 : fits (tyX4 2) v = true) (h3 : (TX4 2).2.2.2 = false ∨ (TX4 2).1 = RX7) : gv_P RX7 100 4 2 v := ⟨RX4, TX4, 5, tyX4, rfl, by decide, gi_X4, (gv_in 109 (by decide +kernel) rfl), tyX4_ok, nmX4, h1, h2, h3⟩
theorem gf_X7_103 : gv_F RX7 103 4 3 := ⟨RX4, TX4, 5, tyX4, rfl, by decide, gi_X4, (gv_in 111 (by decide +kernel) rfl), tyX4_ok, nmX4⟩
theorem gp_X7_103 {v : Value} (h1 : narrow (tyX4 3) v = v) (h2 : fits (tyX4 3) v = true) (h3 : (TX4 3).2.2.2 = false ∨ (TX4 3).1 = RX7) : gv_P RX7 103 4 3 v := ⟨RX4, TX4, 5, tyX4, rfl, by decide, gi_X4, (gv_in 111 (by decide +kernel) rfl), tyX4_ok, nmX4, h1, h2, h3⟩
theorem gf_X7_117 : gv_F RX7 117 4 4 := ⟨RX4, TX4, 5, tyX4, rfl, by decide, gi_X4, (gv_in 114 (by decide +kernel) rfl), tyX4_ok, nmX4⟩
theorem gp_X7_117 {v : Value} (h1 : narrow (tyX4 4) v = v) (h2 : fits (tyX4 4) v = true) (h3 : (TX4 4).2.2.2 = false ∨ (TX4 4).1 = RX7) : gv_P RX7 117 4 4 v := ⟨RX4, TX4, 5, tyX4, rfl, by decide, gi_X4, (gv_in 114 (by decide +kernel) rfl), tyX4_ok, nmX4, h1, h2, h3⟩
theorem gf_X7_134 : gv_F RX7 134 4 0 := ⟨RX4, TX4, 5, tyX4, rfl, by decide, gi_X4, (gv_in 103 (by decide +kernel) rfl), tyX4_ok, nmX4⟩
theorem gp_X7_134 {v : Value} (h1 : narrow (tyX4 0) v = v) (h2 : fits (tyX4 0) v = true) (h3 : (TX4 0).2.2.2 = false ∨ (TX4 0).1 = RX7) : gv_P RX7 134 4 0 v := ⟨RX4, TX4, 5, tyX4, rfl, by decide, gi_X4, (gv_in 103 (by decide +kernel) rfl), tyX4_ok, nmX4, h1, h2, h3⟩
theorem gf_X7_156 : gv_F RX7 156 1 0 := ⟨RX1, TX1, 2, tyX1, rfl, by decide, gi_X1, (gv_in 185 (by decide +kernel) rfl), tyX1_ok, nmX1⟩
theorem gp_X7_156 {v : Value} (h1 : narrow (tyX1 0) v = v) (h2 : fits (tyX1 0) v = true) (h3 : (TX1 0).2.2.2 = false ∨ (TX1 0).1 = RX7) : gv_P RX7 156 1 0 v := ⟨RX1, TX1, 2, tyX1, rfl, by decide, gi_X1, (gv_in 185 (by decide +kernel) rfl), tyX1_ok, nmX1, h1, h2, h3⟩
theorem gf_X7_167 : gv_F RX7 167 0 1 := ⟨RX0, TX0, 9, tyX0, rfl, by decide, gi_X0, (gv_in 200 (by decide +kernel) rfl), tyX0_ok, nmX0⟩
theorem gp_X7_167 {v : Value} (h1 : narrow (tyX0 1) v = v) (h2 : fits (tyX0 1) v = true) (h3 : (TX0 1).2.2.2 = false ∨ (TX0 1).1 = RX7) : gv_P RX7 167 0 1 v := ⟨RX0, TX0, 9, tyX0, rfl, by decide, gi_X0, (gv_in 200 (by decide +kernel) rfl), tyX0_ok, nmX0, h1, h2, h3⟩
theorem gf_X7_170 : gv_F RX7 170 0 2 := ⟨RX0, TX0, 9, tyX0, rfl, by decide, gi_X0, (gv_in 202 (by decide +kernel) rfl), tyX0_ok, nmX0⟩
theorem gp_X7_170 {v : Value} (h1 : narrow (tyX0 2) v = v) (h2 : fits (tyX0 2) v = true) (h3 : (TX0 2).2.2.2 = false ∨ (TX0 2).1 = RX7) : gv_P RX7 170 0 2 v := ⟨RX0, TX0, 9, tyX0, rfl, by decide, gi_X0, (gv_in 202 (by decide +kernel) rfl), tyX0_ok, nmX0, h1, h2, h3⟩
theorem gf_X7_177 : gv_F RX7 177 0 3 := ⟨RX0, TX0, 9, tyX0, rfl, by decide, gi_X0, (gv_in 204 (by decide +kernel) rfl), tyX0_ok, nmX0⟩
theorem gp_X7_177 {v : Value} (h1 : narrow (tyX0 3) v = v) (h2 : fits (tyX0 3) v = true) (h3 : (TX0 3).2.2.2 = false ∨ (TX0 3).1 = RX7) : gv_P RX7 177 0 3 v := ⟨RX0, TX0, 9, tyX0, rfl, by decide, gi_X0, (gv_in 204 (by decide +kernel) rfl), tyX0_ok, nmX0, h1, h2, h3⟩
theorem gf_X7_186 : gv_F RX7 186 0 6 := ⟨RX0, TX0, 9, tyX0, rfl, by decide, gi_X0, (gv_in 208 (by decide +kernel) rfl), tyX0_ok, nmX0⟩
theorem gp_X7_186 {v : Value} (h1 : narrow (tyX0 6) v = v) (h2 : fits (tyX0 6) v = true) (h3 : (TX0 6).2.2.2 = false ∨ (TX0 6).1 = RX7) : gv_P RX7 186 0 6 v := ⟨RX0, TX0, 9, tyX0, rfl, by decide, gi_X0, (gv_in 208 (by decide +kernel) rfl), tyX0_ok, nmX0, h1, h2, h3⟩
theorem gf_X7_189 : gv_F RX7 189 0 7 := ⟨RX0, TX0, 9, tyX0, rfl, by decide, gi_X0, (gv_in 210 (by decide +kernel) rfl), tyX0_ok, nmX0⟩
theorem gp_X7_189 {v : Value} (h1 : narrow (tyX0 7) v = v) (h2 : fits (tyX0 7) v = true) (h3 : (TX0 7).2.2.2 = false ∨ (TX0 7).1 = RX7) : gv_P RX7 189 0 7 v := ⟨RX0, TX0, 9, tyX0, rfl, by decide, gi_X0, (gv_in 210 (by decide +kernel) rfl), tyX0_ok, nmX0, h1, h2, h3⟩
theorem gf_X7_192 : gv_F RX7 192 0 8 := ⟨RX0, TX0, 9, tyX0, rfl, by decide, gi_X0, (gv_in 212 (by decide +kernel) rfl), tyX0_ok, nmX0⟩
theorem gp_X7_192 {v : Value} (h1 : narrow (tyX0 8) v = v) (h2 : fits (tyX0 8) v = true) (h3 : (TX0 8).2.2.2 = false ∨ (TX0 8).1 = RX7) : gv_P RX7 192 0 8 v := ⟨RX0, TX0, 9, tyX0, rfl, by decide, gi_X0, (gv_in 212 (by decide +kernel) rfl), tyX0_ok, nmX0, h1, h2, h3⟩
theorem gf_X7_245 : gv_F RX7 245 5 0 := ⟨RX5, TX5, 3, tyX5, rfl, by decide, gi_X5, (gv_in 153 (by decide +kernel) rfl), tyX5_ok, nmX5⟩
theorem gp_X7_245 {v : Value} (h1 : narrow (tyX5 0) v = v) (h2 : fits (tyX5 0) v = true) (h3 : (TX5 0).2.2.2 = false ∨ (TX5 0).1 = RX7) : gv_P RX7 245 5 0 v := ⟨RX5, TX5, 3, tyX5, rfl, by decide, gi_X5, (gv_in 153 (by decide +kernel) rfl), tyX5_ok, nmX5, h1, h2, h3⟩
theorem gf_X7_247 : gv_F RX7 247 5 1 := ⟨RX5, TX5, 3, tyX5, rfl, by decide, gi_X5, (gv_in 155 (by decide +kernel) rfl), tyX5_ok, nmX5⟩
theorem gp_X7_247 {v : Value} (h1 : narrow (tyX5 1) v = v) (h2 : fits (tyX5 1) v = true) (h3 : (TX5 1).2.2.2 = false ∨ (TX5 1).1 = RX7) : gv_P RX7 247 5 1 v := ⟨RX5, TX5, 3, tyX5, rfl, by decide, gi_X5, (gv_in 155 (by decide +kernel) rfl), tyX5_ok, nmX5, h1, h2, h3⟩
theorem gf_X0_9 : gv_F RX0 9 0 0 := ⟨RX0, TX0, 9, tyX0, rfl, by decide, gi_X0, (gv_in 198 (by decide +kernel) rfl), tyX0_ok, nmX0⟩
theorem gp_X0_9 {v : Value} (h1 : narrow (tyX0 0) v = v) (h2 : fits (tyX0 0) v = true) (h3 : (TX0 0).2.2.2 = false ∨ (TX0 0).1 = RX0) : gv_P RX0 9 0 0 v := ⟨RX0, TX0, 9, tyX0, rfl, by decide, gi_X0, (gv_in 198 (by decide +kernel) rfl), tyX0_ok, nmX0, h1, h2, h3⟩
theorem gf_X0_15 : gv_F RX0 15 0 1 := ⟨RX0, TX0, 9, tyX0, rfl, by decide, gi_X0, (gv_in 199 (by decide +kernel) rfl), tyX0_ok, nmX0⟩
theorem gp_X0_15 {v : Value} (h1 : narrow (tyX0 1) v = v) (h2 : fits (tyX0 1) v = true) (h3 : (TX0 1).2.2.2 = false ∨ (TX0 1).1 = RX0) : gv_P RX0 15 0 1 v := ⟨RX0, TX0, 9, tyX0, rfl, by decide, gi_X0, (gv_in 199 (by decide +kernel) rfl), tyX0_ok, nmX0, h1, h2, h3⟩
theorem gf_X0_18 : gv_F RX0 18 0 2 := ⟨RX0, TX0, 9, tyX0, rfl, by decide, gi_X0, (gv_in 201 (by decide +kernel) rfl), tyX0_ok, nmX0⟩
theorem gp_X0_18 {v : Value} (h1 : narrow (tyX0 2) v = v) (h2 : fits (tyX0 2) v = true) (h3 : (TX0 2).2.2.2 = false ∨ (TX0 2).1 = RX0) : gv_P RX0 18 0 2 v := ⟨RX0, TX0, 9, tyX0, rfl, by decide, gi_X0, (gv_in 201 (by decide +kernel) rfl), tyX0_ok, nmX0, h1, h2, h3⟩
theorem gf_X0_21 : gv_F RX0 21 0 3 := ⟨RX0, TX0, 9, tyX0, rfl, by decide, gi_X0, (gv_in 203 (by decide +kernel) rfl), tyX0_ok, nmX0⟩
theorem gp_X0_21 {v : Value} (h1 : narrow (tyX0 3) v = v) (h2 : fits (tyX0 3) v = true) (h3 : (TX0 3).2.2.2 = false ∨ (TX0 3).1 = RX0) : gv_P RX0 21 0 3 v := ⟨RX0, TX0, 9, tyX0, rfl, by decide, gi_X0, (gv_in 203 (by decide +kernel) rfl), tyX0_ok, nmX0, h1, h2, h3⟩
theorem gf_X0_24 : gv_F RX0 24 0 4 := ⟨RX0, TX0, 9, tyX0, rfl, by decide, gi_X0, (gv_in 205 (by decide +kernel) rfl), tyX0_ok, nmX0⟩
theorem gp_X0_24 {v : Value} (h1 : narrow (tyX0 4) v = v) (h2 : fits (tyX0 4) v = true) (h3 : (TX0 4).2.2.2 = false ∨ (TX0 4).1 = RX0) : gv_P RX0 24 0 4 v := ⟨RX0, TX0, 9, tyX0, rfl, by decide, gi_X0, (gv_in 205 (by decide +kernel) rfl), tyX0_ok, nmX0, h1, h2, h3⟩
theorem gf_X0_27 : gv_F RX0 27 0 5 := ⟨RX0, TX0, 9, tyX0, rfl, by decide, gi_X0, (gv_in 206 (by decide +kernel) rfl), tyX0_ok, nmX0⟩
theorem gp_X0_27 {v : Value} (h1 : narrow (tyX0 5) v = v) (h2 : fits (tyX0 5) v = true) (h3 : (TX0 5).2.2.2 = false ∨ (TX0 5).1 = RX0) : gv_P RX0 27 0 5 v := ⟨RX0, TX0, 9, tyX0, rfl, by decide, gi_X0, (gv_in 206 (by decide +kernel) rfl), tyX0_ok, nmX0, h1, h2, h3⟩
theorem gf_X0_36 : gv_F RX0 36 4 0 := ⟨RX4, TX4, 5, tyX4, rfl, by decide, gi_X4, (gv_in 100 (by decide +kernel) rfl), tyX4_ok, nmX4⟩
theorem gp_X0_36 {v : Value} (h1 : narrow (tyX4 0) v = v) (h2 : fits (tyX4 0) v = true) (h3 : (TX4 0).2.2.2 = false ∨ (TX4 0).1 = RX0) : gv_P RX0 36 4 0 v := ⟨RX4, TX4, 5, tyX4, rfl, by decide, gi_X4, (gv_in 100 (by decide +kernel) rfl), tyX4_ok, nmX4, h1, h2, h3⟩
theorem gf_X0_53 : gv_F RX0 53 1 0 := ⟨RX1, TX1, 2, tyX1, rfl, by decide, gi_X1, (gv_in 184 (by decide +kernel) rfl), tyX1_ok, nmX1⟩
theorem gp_X0_53 {v : Value} (h1 : narrow (tyX1 0) v = v) (h2 : fits (tyX1 0) v = true) (h3 : (TX1 0).2.2.2 = false ∨ (TX1 0).1 = RX0) : gv_P RX0 53 1 0 v := ⟨RX1, TX1, 2, tyX1, rfl, by decide, gi_X1, (gv_in 184 (by decide +kernel) rfl), tyX1_ok, nmX1, h1, h2, h3⟩
theorem gf_X0_96 : gv_F RX0 96 0 6 := ⟨RX0, TX0, 9, tyX0, rfl, by decide, gi_X0, (gv_in 207 (by decide +kernel) rfl), tyX0_ok, nmX0⟩
theorem gp_X0_96 {v : Value} (h1 : narrow (tyX0 6) v = v) (h2 : fits (tyX0 6) v = true) (h3 : (TX0 6).2.2.2 = false ∨ (TX0 6).1 = RX0) : gv_P RX0 96 0 6 v := ⟨RX0, TX0, 9, tyX0, rfl, by decide, gi_X0, (gv_in 207 (by decide +kernel) rfl), tyX0_ok, nmX0, h1, h2, h3⟩
theorem gf_X0_100 : gv_F RX0 100 0 7 := ⟨RX0, TX0, 9, tyX0, rfl, by decide, gi_X0, (gv_in 209 (by decide +kernel) rfl), tyX0_ok, nmX0⟩
theorem gp_X0_100 {v : Value} (h1 : narrow (tyX0 7) v = v) (h2 : fits (tyX0 7) v = true) (h3 : (TX0 7).2.2.2 = false ∨ (TX0 7).1 = RX0) : gv_P RX0 100 0 7 v := ⟨RX0, TX0, 9, tyX0, rfl, by decide, gi_X0, (gv_in 209 (by decide +kernel) rfl), tyX0_ok, nmX0, h1, h2, h3⟩
theorem gf_X0_103 : gv_F RX0 103 0 8 := ⟨RX0, TX0, 9, tyX0, rfl, by decide, gi_X0, (gv_in 211 (by decide +kernel) rfl), tyX0_ok, nmX0⟩
theorem gp_X0_103 {v : Value} (h1 : narrow (tyX0 8) v = v) (h2 : fits (tyX0 8) v = true) (h3 : (TX0 8).2.2.2 = false ∨ (TX0 8).1 = RX0) : gv_P RX0 103 0 8 v := ⟨RX0, TX0, 9, tyX0, rfl, by decide, gi_X0, (gv_in 211 (by decide +kernel) rfl), tyX0_ok, nmX0, h1, h2, h3⟩
theorem gf_X1_9 : gv_F RX1 9 1 0 := ⟨RX1, TX1, 2, tyX1, rfl, by decide, gi_X1, (gv_in 183 (by decide +kernel) rfl), tyX1_ok, nmX1⟩
theorem gp_X1_9 {v : Value} (h1 : narrow (tyX1 0) v = v) (h2 : fits (tyX1 0) v = true) (h3 : (TX1 0).2.2.2 = false ∨ (TX1 0).1 = RX1) : gv_P RX1 9 1 0 v := ⟨RX1, TX1, 2, tyX1, rfl, by decide, gi_X1, (gv_in 183 (by decide +kernel) rfl), tyX1_ok, nmX1, h1, h2, h3⟩
theorem gf_X1_15 : gv_F RX1 15 1 1 := ⟨RX1, TX1, 2, tyX1, rfl, by decide, gi_X1, (gv_in 186 (by decide +kernel) rfl), tyX1_ok, nmX1⟩
theorem gp_X1_15 {v : Value} (h1 : narrow (tyX1 1) v = v) (h2 : fits (tyX1 1) v = true) (h3 : (TX1 1).2.2.2 = false ∨ (TX1 1).1 = RX1) : gv_P RX1 15 1 1 v := ⟨RX1, TX1, 2, tyX1, rfl, by decide, gi_X1, (gv_in 186 (by decide +kernel) rfl), tyX1_ok, nmX1, h1, h2, h3⟩
theorem gf_X2_9 : gv_F RX2 9 2 0 := ⟨RX2, TX2, 4, tyX2, rfl, by decide, gi_X2, (gv_in 132 (by decide +kernel) rfl), tyX2_ok, nmX2⟩
theorem gp_X2_9 {v : Value} (h1 : narrow (tyX2 0) v = v) (h2 : fits (tyX2 0) v = true) (h3 : (TX2 0).2.2.2 = false ∨ (TX2 0).1 = RX2) : gv_P RX2 9 2 0 v := ⟨RX2, TX2, 4, tyX2, rfl, by decide, gi_X2, (gv_in 132 (by decide +kernel) rfl), tyX2_ok, nmX2, h1, h2, h3⟩
theorem gf_X2_15 : gv_F RX2 15 2 1 := ⟨RX2, TX2, 4, tyX2, rfl, by decide, gi_X2, (gv_in 133 (by decide +kernel) rfl), tyX2_ok, nmX2⟩
theorem gp_X2_15 {v : Value} (h1 : narrow (tyX2 1) v = v) (h2 : fits (tyX2 1) v = true) (h3 : (TX2 1).2.2.2 = false ∨ (TX2 1).1 = RX2) : gv_P RX2 15 2 1 v := ⟨RX2, TX2, 4, tyX2, rfl, by decide, gi_X2, (gv_in 133 (by decide +kernel) rfl), tyX2_ok, nmX2, h1, h2, h3⟩
theorem gf_X2_18 : gv_F RX2 18 2 2 := ⟨RX2, TX2, 4, tyX2, rfl, by decide, gi_X2, (gv_in 134 (by decide +kernel) rfl), tyX2_ok, nmX2⟩
theorem gp_X2_18 {v : Value} (h1 : narrow (tyX2 2) v = v) (h2 : fits (tyX2 2) v = true) (h3 : (TX2 2).2.2.2 = false ∨ (TX2 2).1 = RX2) : gv_P RX2 18 2 2 v := ⟨RX2, TX2, 4, tyX2, rfl, by decide, gi_X2, (gv_in 134 (by decide +kernel) rfl), tyX2_ok, nmX2, h1, h2, h3⟩
theorem gf_X2_21 : gv_F RX2 21 2 3 := ⟨RX2, TX2, 4, tyX2, rfl, by decide, gi_X2, (gv_in 135 (by decide +kernel) rfl), tyX2_ok, nmX2⟩
theorem gp_X2_21 {v : Value} (h1 : narrow (tyX2 3) v = v) (h2 : fits (tyX2 3) v = true) (h3 : (TX2 3).2.2.2 = false ∨ (TX2 3).1 = RX2) : gv_P RX2 21 2 3 v := ⟨RX2, TX2, 4, tyX2, rfl, by decide, gi_X2, (gv_in 135 (by decide +kernel) rfl), tyX2_ok, nmX2, h1, h2, h3⟩
theorem gf_X2_34 : gv_F RX2 34 4 1 := ⟨RX4, TX4, 5, tyX4, rfl, by decide, gi_X4, (gv_in 105 (by decide +kernel) rfl), tyX4_ok, nmX4⟩
theorem gp_X2_34 {v : Value} (h1 : narrow (tyX4 1) v = v) (h2 : fits (tyX4 1) v = true) (h3 : (TX4 1).2.2.2 = false ∨ (TX4 1).1 = RX2) : gv_P RX2 34 4 1 v := ⟨RX4, TX4, 5, tyX4, rfl, by decide, gi_X4, (gv_in 105 (by decide +kernel) rfl), tyX4_ok, nmX4, h1, h2, h3⟩
theorem gf_X2_50 : gv_F RX2 50 4 0 := ⟨RX4, TX4, 5, tyX4, rfl, by decide, gi_X4, (gv_in 101 (by decide +kernel) rfl), tyX4_ok, nmX4⟩
theorem gp_X2_50 {v : Value} (h1 : narrow (tyX4 0) v = v) (h2 : fits (tyX4 0) v = true) (h3 : (TX4 0).2.2.2 = false ∨ (TX4 0).1 = RX2) : gv_P RX2 50 4 0 v := ⟨RX4, TX4, 5, tyX4, rfl, by decide, gi_X4, (gv_in 101 (by decide +kernel) rfl), tyX4_ok, nmX4, h1, h2, h3⟩
theorem gf_X3_9 : gv_F RX3 9 3 0 := ⟨RX3, TX3, 6, tyX3, rfl, by decide, gi_X3, (gv_in 63 (by decide +kernel) rfl), tyX3_ok, nmX3⟩
theorem gp_X3_9 {v : Value} (h1 : narrow (tyX3 0) v = v) (h2 : fits (tyX3 0) v = true) (h3 : (TX3 0).2.2.2 = false ∨ (TX3 0).1 = RX3) : gv_P RX3 9 3 0 v := ⟨RX3, TX3, 6, tyX3, rfl, by decide, gi_X3, (gv_in 63 (by decide +kernel) rfl), tyX3_ok, nmX3, h1, h2, h3⟩
theorem gf_X3_15 : gv_F RX3 15 3 1 := ⟨RX3, TX3, 6, tyX3, rfl, by decide, gi_X3, (gv_in 64 (by decide +kernel) rfl), tyX3_ok, nmX3⟩
theorem gp_X3_15 {v : Value} (h1 : narrow (tyX3 1) v = v) (h2 : fits (tyX3 1) v = true) (h3 : (TX3 1).2.2.2 = false ∨ (TX3 1).1 = RX3) : gv_P RX3 15 3 1 v := ⟨RX3, TX3, 6, tyX3, rfl, by decide, gi_X3, (gv_in 64 (by decide +kernel) rfl), tyX3_ok, nmX3, h1, h2, h3⟩
theorem gf_X3_24 : gv_F RX3 24 3 2 := ⟨RX3, TX3, 6, tyX3, rfl, by decide, gi_X3, (gv_in 66 (by decide +kernel) rfl), tyX3_ok, nmX3⟩
theorem gp_X3_24 {v : Value} (h1 : narrow (tyX3 2) v = v) (h2 : fits (tyX3 2) v = true) (h3 : (TX3 2).2.2.2 = false ∨ (TX3 2).1 = RX3) : gv_P RX3 24 3 2 v := ⟨RX3, TX3, 6, tyX3, rfl, by decide, gi_X3, (gv_in 66 (by decide +kernel) rfl), tyX3_ok, nmX3, h1, h2, h3⟩
theorem gf_X3_30 : gv_F RX3 30 3 4 := ⟨RX3, TX3, 6, tyX3, rfl, by decide, gi_X3, (gv_in 68 (by decide +kernel) rfl), tyX3_ok, nmX3⟩
theorem gp_X3_30 {v : Value} (h1 : narrow (tyX3 4) v = v) (h2 : fits (tyX3 4) v = true) (h3 : (TX3 4).2.2.2 = false ∨ (TX3 4).1 = RX3) : gv_P RX3 30 3 4 v := ⟨RX3, TX3, 6, tyX3, rfl, by decide, gi_X3, (gv_in 68 (by decide +kernel) rfl), tyX3_ok, nmX3, h1, h2, h3⟩
theorem gf_X3_37 : gv_F RX3 37 3 3 := ⟨RX3, TX3, 6, tyX3, rfl, by decide, gi_X3, (gv_in 67 (by decide +kernel) rfl), tyX3_ok, nmX3⟩
theorem gp_X3_37 {v : Value} (h1 : narrow (tyX3 3) v = v) (h2 : fits (tyX3 3) v = true) (h3 : (TX3 3).2.2.2 = false ∨ (TX3 3).1 = RX3) : gv_P RX3 37 3 3 v := ⟨RX3, TX3, 6, tyX3, rfl, by decide, gi_X3, (gv_in 67 (by decide +kernel) rfl), tyX3_ok, nmX3, h1, h2, h3⟩
theorem gf_X3_50 : gv_F RX3 50 3 5 := ⟨RX3, TX3, 6, tyX3, rfl, by decide, gi_X3, (gv_in 69 (by decide +kernel) rfl), tyX3_ok, nmX3⟩
theorem gp_X3_50 {v : Value} (h1 : narrow (tyX3 5) v = v) (h2 : fits (tyX3 5) v = true) (h3 : (TX3 5).2.2.2 = false ∨ (TX3 5).1 = RX3) : gv_P RX3 50 3 5 v := ⟨RX3, TX3, 6, tyX3, rfl, by decide, gi_X3, (gv_in 69 (by decide +kernel) rfl), tyX3_ok, nmX3, h1, h2, h3⟩
theorem gf_X3_57 : gv_F RX3 57 4 0 := ⟨RX4, TX4, 5, tyX4, rfl, by decide, gi_X4, (gv_in 102 (by decide +kernel) rfl), tyX4_ok, nmX4⟩
theorem gp_X3_57 {v : Value} (h1 : narrow (tyX4 0) v = v) (h2 : fits (tyX4 0) v = true) (h3 : (TX4 0).2.2.2 = false ∨ (TX4 0).1 = RX3) : gv_P RX3 57 4 0 v := ⟨RX4, TX4, 5, tyX4, rfl, by decide, gi_X4, (gv_in 102 (by decide +kernel) rfl), tyX4_ok, nmX4, h1, h2, h3⟩
theorem gf_X3_64 : gv_F RX3 64 4 1 := ⟨RX4, TX4, 5, tyX4, rfl, by decide, gi_X4, (gv_in 107 (by decide +kernel) rfl), tyX4_ok, nmX4⟩
theorem gp_X3_64 {v : Value} (h1 : narrow (tyX4 1) v = v) (h2 : fits (tyX4 1) v = true) (h3 : (TX4 1).2.2.2 = false ∨ (TX4 1).1 = RX3) : gv_P RX3 64 4 1 v := ⟨RX4, TX4, 5, tyX4, rfl, by decide, gi_X4, (gv_in 107 (by decide +kernel) rfl), tyX4_ok, nmX4, h1, h2, h3⟩
theorem gf_X3_71 : gv_F RX3 71 4 4 := ⟨RX4, TX4, 5, tyX4, rfl, by decide, gi_X4, (gv_in 113 (by decide +kernel) rfl), tyX4_ok, nmX4⟩
theorem gp_X3_71 {v : Value} (h1 : narrow (tyX4 4) v = v) (h2 : fits (tyX4 4) v = true) (h3 : (TX4 4).2.2.2 = false ∨ (TX4 4).1 = RX3) : gv_P RX3 71 4 4 v := ⟨RX4, TX4, 5, tyX4, rfl, by decide, gi_X4, (gv_in 113 (by decide +kernel) rfl), tyX4_ok, nmX4, h1, h2, h3⟩
theorem gf_X4_9 : gv_F RX4 9 4 0 := ⟨RX4, TX4, 5, tyX4, rfl, by decide, gi_X4, (gv_in 99 (by decide +kernel) rfl), tyX4_ok, nmX4⟩
theorem gp_X4_9 {v : Value} (h1 : narrow (tyX4 0) v = v) (h2 : fits (tyX4 0) v = true) (h3 : (TX4 0).2.2.2 = false ∨ (TX4 0).1 = RX4) : gv_P RX4 9 4 0 v := ⟨RX4, TX4, 5, tyX4, rfl, by decide, gi_X4, (gv_in 99 (by decide +kernel) rfl), tyX4_ok, nmX4, h1, h2, h3⟩
theorem gf_X4_15 : gv_F RX4 15 4 1 := ⟨RX4, TX4, 5, tyX4, rfl, by decide, gi_X4, (gv_in 104 (by decide +kernel) rfl), tyX4_ok, nmX4⟩
theorem gp_X4_15 {v : Value} (h1 : narrow (tyX4 1) v = v) (h2 : fits (tyX4 1) v = true) (h3 : (TX4 1).2.2.2 = false ∨ (TX4 1).1 = RX4) : gv_P RX4 15 4 1 v := ⟨RX4, TX4, 5, tyX4, rfl, by decide, gi_X4, (gv_in 104 (by decide +kernel) rfl), tyX4_ok, nmX4, h1, h2, h3⟩
theorem gf_X4_18 : gv_F RX4 18 4 2 := ⟨RX4, TX4, 5, tyX4, rfl, by decide, gi_X4, (gv_in 108 (by decide +kernel) rfl), tyX4_ok, nmX4⟩
theorem gp_X4_18 {v : Value} (h1 : narrow (tyX4 2) v = v) (h2 : fits (tyX4 2) v = true) (h3 : (TX4 2).2.2.2 = false ∨ (TX4 2).1 = RX4) : gv_P RX4 18 4 2 v := ⟨RX4, TX4, 5, tyX4, rfl, by decide, gi_X4, (gv_in 108 (by decide +kernel) rfl), tyX4_ok, nmX4, h1, h2, h3⟩
theorem gf_X4_21 : gv_F RX4 21 4 3 := ⟨RX4, TX4, 5, tyX4, rfl, by decide, gi_X4, (gv_in 110 (by decide +kernel) rfl), tyX4_ok, nmX4⟩
theorem gp_X4_21 {v : Value} (h1 : narrow (tyX4 3) v = v) (h2 : fits (tyX4 3) v = true) (h3 : (TX4 3).2.2.2 = false ∨ (TX4 3).1 = RX4) : gv_P RX4 21 4 3 v := ⟨RX4, TX4, 5, tyX4, rfl, by decide, gi_X4, (gv_in 110 (by decide +kernel) rfl), tyX4_ok, nmX4, h1, h2, h3⟩
theorem gf_X4_36 : gv_F RX4 36 4 4 := ⟨RX4, TX4, 5, tyX4, rfl, by decide, gi_X4, (gv_in 112 (by decide +kernel) rfl), tyX4_ok, nmX4⟩
theorem gp_X4_36 {v : Value} (h1 : narrow (tyX4 4) v = v) (h2 : fits (tyX4 4) v = true) (h3 : (TX4 4).2.2.2 = false ∨ (TX4 4).1 = RX4) : gv_P RX4 36 4 4 v := ⟨RX4, TX4, 5, tyX4, rfl, by decide, gi_X4, (gv_in 112 (by decide +kernel) rfl), tyX4_ok, nmX4, h1, h2, h3⟩
theorem gf_X5_9 : gv_F RX5 9 5 0 := ⟨RX5, TX5, 3, tyX5, rfl, by decide, gi_X5, (gv_in 152 (by decide +kernel) rfl), tyX5_ok, nmX5⟩
theorem gp_X5_9 {v : Value} (h1 : narrow (tyX5 0) v = v) (h2 : fits (tyX5 0) v = true) (h3 : (TX5 0).2.2.2 = false ∨ (TX5 0).1 = RX5) : gv_P RX5 9 5 0 v := ⟨RX5, TX5, 3, tyX5, rfl, by decide, gi_X5, (gv_in 152 (by decide +kernel) rfl), tyX5_ok, nmX5, h1, h2, h3⟩
theorem gf_X5_15 : gv_F RX5 15 5 1 := ⟨RX5, TX5, 3, tyX5, rfl, by decide, gi_X5, (gv_in 154 (by decide +kernel) rfl), tyX5_ok, nmX5⟩
theorem gp_X5_15 {v : Value} (h1 : narrow (tyX5 1) v = v) (h2 : fits (tyX5 1) v = true) (h3 : (TX5 1).2.2.2 = false ∨ (TX5 1).1 = RX5) : gv_P RX5 15 5 1 v := ⟨RX5, TX5, 3, tyX5, rfl, by decide, gi_X5, (gv_in 154 (by decide +kernel) rfl), tyX5_ok, nmX5, h1, h2, h3⟩
theorem gf_X5_18 : gv_F RX5 18 5 2 := ⟨RX5, TX5, 3, tyX5, rfl, by decide, gi_X5, (gv_in 156 (by decide +kernel) rfl), tyX5_ok, nmX5⟩
theorem gp_X5_18 {v : Value} (h1 : narrow (tyX5 2) v = v) (h2 : fits (tyX5 2) v = true) (h3 : (TX5 2).2.2.2 = false ∨ (TX5 2).1 = RX5) : gv_P RX5 18 5 2 v := ⟨RX5, TX5, 3, tyX5, rfl, by decide, gi_X5, (gv_in 156 (by decide +kernel) rfl), tyX5_ok, nmX5, h1, h2, h3⟩
theorem gf_X6_9 : gv_F RX6 9 6 0 := ⟨RX6, TX6, 1, tyX6, rfl, by decide, gi_X6, (gv_in 172 (by decide +kernel) rfl), tyX6_ok, nmX6⟩
theorem gp_X6_9 {v : Value} (h1 : narrow (tyX6 0) v = v) (h2 : fits (tyX6 0) v = true) (h3 : (TX6 0).2.2.2 = false ∨ (TX6 0).1 = RX6) : gv_P RX6 9 6 0 v := ⟨RX6, TX6, 1, tyX6, rfl, by decide, gi_X6, (gv_in 172 (by decide +kernel) rfl), tyX6_ok, nmX6, h1, h2, h3⟩
theorem gf_X8_7 : gv_F RX8 7 8 0 := ⟨RX8, TX8, 20, tyX8, rfl, by decide, gi_X8, (gv_in 624 (by decide +kernel) rfl), tyX8_ok, nmX8⟩
theorem gp_X8_7 {v : Value} (h1 : narrow (tyX8 0) v = v) (h2 : fits (tyX8 0) v = true) (h3 : (TX8 0).2.2.2 = false ∨ (TX8 0).1 = RX8) : gv_P RX8 7 8 0 v := ⟨RX8, TX8, 20, tyX8, rfl, by decide, gi_X8, (gv_in 624 (by decide +kernel) rfl), tyX8_ok, nmX8, h1, h2, h3⟩
theorem gf_X8_13 : gv_F RX8 13 8 3 := ⟨RX8, TX8, 20, tyX8, rfl, by decide, gi_X8, (gv_in 627 (by decide +kernel) rfl), tyX8_ok, nmX8⟩
theorem gp_X8_13 {v : Value} (h1 : narrow (tyX8 3) v = v) (h2 : fits (tyX8 3) v = true) (h3 : (TX8 3).2.2.2 = false ∨ (TX8 3).1 = RX8) : gv_P RX8 13 8 3 v := ⟨RX8, TX8, 20, tyX8, rfl, by decide, gi_X8, (gv_in 627 (by decide +kernel) rfl), tyX8_ok, nmX8, h1, h2, h3⟩
theorem gf_X8_16 : gv_F RX8 16 8 4 := ⟨RX8, TX8, 20, tyX8, rfl, by decide, gi_X8, (gv_in 628 (by decide +kernel) rfl), tyX8_ok, nmX8⟩
theorem gp_X8_16 {v : Value} (h1 : narrow (tyX8 4) v = v) (h2 : fits (tyX8 4) v = true) (h3 : (TX8 4).2.2.2 = false ∨ (TX8 4).1 = RX8) : gv_P RX8 16 8 4 v := ⟨RX8, TX8, 20, tyX8, rfl, by decide, gi_X8, (gv_in 628 (by decide +kernel) rfl), tyX8_ok, nmX8, h1, h2, h3⟩
theorem gf_X8_20 : gv_F RX8 20 8 5 := ⟨RX8, TX8, 20, tyX8, rfl, by decide, gi_X8, (gv_in 629 (by decide +kernel) rfl), tyX8_ok, nmX8⟩
theorem gp_X8_20 {v : Value} (h1 : narrow (tyX8 5) v = v) (h2 : fits (tyX8 5) v = true) (h3 : (TX8 5).2.2.2 = false ∨ (TX8 5).1 = RX8) : gv_P RX8 20 8 5 v := ⟨RX8, TX8, 20, tyX8, rfl, by decide, gi_X8, (gv_in 629 (by decide +kernel) rfl), tyX8_ok, nmX8, h1, h2, h3⟩
theorem gf_X8_23 : gv_F RX8 23 8 7 := ⟨RX8, TX8, 20, tyX8, rfl, by decide, gi_X8, (gv_in 631 (by decide +kernel) rfl), tyX8_ok, nmX8⟩
theorem gp_X8_23 {v : Value} (h1 : narrow (tyX8 7) v = v) (h2 : fits (tyX8 7) v = true) (h3 : (TX8 7).2.2.2 = false ∨ (TX8 7).1 = RX8) : gv_P RX8 23 8 7 v := ⟨RX8, TX8, 20, tyX8, rfl, by decide, gi_X8, (gv_in 631 (by decide +kernel) rfl), tyX8_ok, nmX8, h1, h2, h3⟩
theorem gf_X8_26 : gv_F RX8 26 8 11 := ⟨RX8, TX8, 20, tyX8, rfl, by decide, gi_X8, (gv_in 635 (by decide +kernel) rfl), tyX8_ok, nmX8⟩
theorem gp_X8_26 {v : Value} (h1 : narrow (tyX8 11) v = v) (h2 : fits (tyX8 11) v = true) (h3 : (TX8 11).2.2.2 = false ∨ (TX8 11).1 = RX8) : gv_P RX8 26 8 11 v := ⟨RX8, TX8, 20, tyX8, rfl, by decide, gi_X8, (gv_in 635 (by decide +kernel) rfl), tyX8_ok, nmX8, h1, h2, h3⟩
theorem gf_X8_29 : gv_F RX8 29 8 13 := ⟨RX8, TX8, 20, tyX8, rfl, by decide, gi_X8, (gv_in 637 (by decide +kernel) rfl), tyX8_ok, nmX8⟩
theorem gp_X8_29 {v : Value} (h1 : narrow (tyX8 13) v = v) (h2 : fits (tyX8 13) v = true) (h3 : (TX8 13).2.2.2 = false ∨ (TX8 13).1 = RX8) : gv_P RX8 29 8 13 v := ⟨RX8, TX8, 20, tyX8, rfl, by decide, gi_X8, (gv_in 637 (by decide +kernel) rfl), tyX8_ok, nmX8, h1, h2, h3⟩
theorem gf_X8_32 : gv_F RX8 32 8 14 := ⟨RX8, TX8, 20, tyX8, rfl, by decide, gi_X8, (gv_in 638 (by decide +kernel) rfl), tyX8_ok, nmX8⟩
theorem gp_X8_32 {v : Value} (h1 : narrow (tyX8 14) v = v) (h2 : fits (tyX8 14) v = true) (h3 : (TX8 14).2.2.2 = false ∨ (TX8 14).1 = RX8) : gv_P RX8 32 8 14 v := ⟨RX8, TX8, 20, tyX8, rfl, by decide, gi_X8, (gv_in 638 (by decide +kernel) rfl), tyX8_ok, nmX8, h1, h2, h3⟩
theorem gf_X8_35 : gv_F RX8 35 8 18 := ⟨RX8, TX8, 20, tyX8, rfl, by decide, gi_X8, (gv_in 642 (by decide +kernel) rfl), tyX8_ok, nmX8⟩
theorem gp_X8_35 {v : Value} (h1 : narrow (tyX8 18) v = v) (h2 : fits (tyX8 18) v = true) (h3 : (TX8 18).2.2.2 = false ∨ (TX8 18).1 = RX8) : gv_P RX8 35 8 18 v := ⟨RX8, TX8, 20, tyX8, rfl, by decide, gi_X8, (gv_in 642 (by decide +kernel) rfl), tyX8_ok, nmX8, h1, h2, h3⟩
theorem gf_X8_38 : gv_F RX8 38 8 19 := ⟨RX8, TX8, 20, tyX8, rfl, by decide, gi_X8, (gv_in 643 (by decide +kernel) rfl), tyX8_ok, nmX8⟩
theorem gp_X8_38 {v : Value} (h1 : narrow (tyX8 19) v = v) (h2 : fits (tyX8 19) v = true) (h3 : (TX8 19).2.2.2 = false ∨ (TX8 19).1 = RX8) : gv_P RX8 38 8 19 v := ⟨RX8, TX8, 20, tyX8, rfl, by decide, gi_X8, (gv_in 643 (by decide +kernel) rfl), tyX8_ok, nmX8, h1, h2, h3⟩
theorem gf_X8_49 : gv_F RX8 49 8 6 := ⟨RX8, TX8, 20, tyX8, rfl, by decide, gi_X8, (gv_in 630 (by decide +kernel) rfl), tyX8_ok, nmX8⟩
theorem gp_X8_49 {v : Value} (h1 : narrow (tyX8 6) v = v) (h2 : fits (tyX8 6) v = true) (h3 : (TX8 6).2.2.2 = false ∨ (TX8 6).1 = RX8) : gv_P RX8 49 8 6 v := ⟨RX8, TX8, 20, tyX8, rfl, by decide, gi_X8, (gv_in 630 (by decide +kernel) rfl), tyX8_ok, nmX8, h1, h2, h3⟩
theorem gf_X8_53 : gv_F RX8 53 8 8 := ⟨RX8, TX8, 20, tyX8, rfl, by decide, gi_X8, (gv_in 632 (by decide +kernel) rfl), tyX8_ok, nmX8⟩
theorem gp_X8_53 {v : Value} (h1 : narrow (tyX8 8) v = v) (h2 : fits (tyX8 8) v = true) (h3 : (TX8 8).2.2.2 = false ∨ (TX8 8).1 = RX8) : gv_P RX8 53 8 8 v := ⟨RX8, TX8, 20, tyX8, rfl, by decide, gi_X8, (gv_in 632 (by decide +kernel) rfl), tyX8_ok, nmX8, h1, h2, h3⟩
theorem gf_X8_59 : gv_F RX8 59 8 9 := ⟨RX8, TX8, 20, tyX8, rfl, by decide, gi_X8, (gv_in 633 (by decide +kernel) rfl), tyX8_ok, nmX8⟩
theorem gp_X8_59 {v : Value} (h1 : narrow (tyX8 9) v = v) (h2 : fits (tyX8 9) v = true) (h3 : (TX8 9).2.2.2 = false ∨ (TX8 9).1 = RX8) : gv_P RX8 59 8 9 v := ⟨RX8, TX8, 20, tyX8, rfl, by decide, gi_X8, (gv_in 633 (by decide +kernel) rfl), tyX8_ok, nmX8, h1, h2, h3⟩
theorem gf_X8_62 : gv_F RX8 62 8 10 := ⟨RX8, TX8, 20, tyX8, rfl, by decide, gi_X8, (gv_in 634 (by decide +kernel) rfl), tyX8_ok, nmX8⟩
theorem gp_X8_62 {v : Value} (h1 : narrow (tyX8 10) v = v) (h2 : fits (tyX8 10) v = true) (h3 : (TX8 10).2.2.2 = false ∨ (TX8 10).1 = RX8) : gv_P RX8 62 8 10 v := ⟨RX8, TX8, 20, tyX8, rfl, by decide, gi_X8, (gv_in 634 (by decide +kernel) rfl), tyX8_ok, nmX8, h1, h2, h3⟩
theorem gf_X8_88 : gv_F RX8 88 8 1 := ⟨RX8, TX8, 20, tyX8, rfl, by decide, gi_X8, (gv_in 625 (by decide +kernel) rfl), tyX8_ok, nmX8⟩
theorem gp_X8_88 {v : Value} (h1 : narrow (tyX8 1) v = v) (h2 : fits (tyX8 1) v = true) (h3 : (TX8 1).2.2.2 = false ∨ (TX8 1).1 = RX8) : gv_P RX8 88 8 1 v := ⟨RX8, TX8, 20, tyX8, rfl, by decide, gi_X8, (gv_in 625 (by decide +kernel) rfl), tyX8_ok, nmX8, h1, h2, h3⟩
theorem gf_X8_91 : gv_F RX8 91 8 17 := ⟨RX8, TX8, 20, tyX8, rfl, by decide, gi_X8, (gv_in 641 (by decide +kernel) rfl), tyX8_ok, nmX8⟩
theorem gp_X8_91 {v : Value} (h1 : narrow (tyX8 17) v = v) (h2 : fits (tyX8 17) v = true) (h3 : (TX8 17).2.2.2 = false ∨ (TX8 17).1 = RX8) : gv_P RX8 91 8 17 v := ⟨RX8, TX8, 20, tyX8, rfl, by decide, gi_X8, (gv_in 641 (by decide +kernel) rfl), tyX8_ok, nmX8, h1, h2, h3⟩
theorem gf_X8_101 : gv_F RX8 101 8 2 := ⟨RX8, TX8, 20, tyX8, rfl, by decide, gi_X8, (gv_in 626 (by decide +kernel) rfl), tyX8_ok, nmX8⟩
theorem gp_X8_101 {v : Value} (h1 : narrow (tyX8 2) v = v) (h2 : fits (tyX8 2) v = true) (h3 : (TX8 2).2.2.2 = false ∨ (TX8 2).1 = RX8) : gv_P RX8 101 8 2 v := ⟨RX8, TX8, 20, tyX8, rfl, by decide, gi_X8, (gv_in 626 (by decide +kernel) rfl), tyX8_ok, nmX8, h1, h2, h3⟩
theorem gf_X8_144 : gv_F RX8 144 8 12 := ⟨RX8, TX8, 20, tyX8, rfl, by decide, gi_X8, (gv_in 636 (by decide +kernel) rfl), tyX8_ok, nmX8⟩
theorem gp_X8_144 {v : Value} (h1 : narrow (tyX8 12) v = v) (h2 : fits (tyX8 12) v = true) (h3 : (TX8 12).2.2.2 = false ∨ (TX8 12).1 = RX8) : gv_P RX8 144 8 12 v := ⟨RX8, TX8, 20, tyX8, rfl, by decide, gi_X8, (gv_in 636 (by decide +kernel) rfl), tyX8_ok, nmX8, h1, h2, h3⟩
theorem gf_X8_155 : gv_F RX8 155 8 15 := ⟨RX8, TX8, 20, tyX8, rfl, by decide, gi_X8, (gv_in 639 (by decide +kernel) rfl), tyX8_ok, nmX8⟩
theorem gp_X8_155 {v : Value} (h1 : narrow (tyX8 15) v = v) (h2 : fits (tyX8 15) v = true) (h3 : (TX8 15).2.2.2 = false ∨ (TX8 15).1 = RX8) : gv_P RX8 155 8 15 v := ⟨RX8, TX8, 20, tyX8, rfl, by decide, gi_X8, (gv_in 639 (by decide +kernel) rfl), tyX8_ok, nmX8, h1, h2, h3⟩
theorem gf_X8_158 : gv_F RX8 158 8 16 := ⟨RX8, TX8, 20, tyX8, rfl, by decide, gi_X8, (gv_in 640 (by decide +kernel) rfl), tyX8_ok, nmX8⟩
theorem gp_X8_158 {v : Value} (h1 : narrow (tyX8 16) v = v) (h2 : fits (tyX8 16) v = true) (h3 : (TX8 16).2.2.2 = false ∨ (TX8 16).1 = RX8) : gv_P RX8 158 8 16 v := ⟨RX8, TX8, 20, tyX8, rfl, by decide, gi_X8, (gv_in 640 (by decide +kernel) rfl), tyX8_ok, nmX8, h1, h2, h3⟩
theorem gc_L_9 : gv_cI RL 9 m_X7_init 0 := ⟨gb_X7_init, (gv_in 51 (by decide +kernel) rfl), (gv_in 52 (by decide +kernel) rfl), by decide +kernel, rfl⟩
theorem gc_L_12 : gv_cI RL 12 m_X8_init 0 := ⟨gb_X8_init, (gv_in 617 (by decide +kernel) rfl), (gv_in 618 (by decide +kernel) rfl), by decide +kernel, rfl⟩
theorem gc_L_13 : gv_cV RL 13 m_X7_type 1 := ⟨gb_X7_type, (gv_in 263 (by decide +kernel) rfl), (gv_in 264 (by decide +kernel) rfl), (gv_in 265 (by decide +kernel) rfl)⟩
theorem gc_L_17 : gv_cV RL 17 m_X8_type 1 := ⟨gb_X8_type, (gv_in 685 (by decide +kernel) rfl), (gv_in 686 (by decide +kernel) rfl), (gv_in 687 (by decide +kernel) rfl)⟩
theorem gc_L_18 : gv_cV RL 18 m_X7_clear 0 := ⟨gb_X7_clear, (gv_in 271 (by decide +kernel) rfl), (gv_in 272 (by decide +kernel) rfl), (gv_in 273 (by decide +kernel) rfl)⟩
theorem gc_L_22 : gv_cV RL 22 m_X8_clear 0 := ⟨gb_X8_clear, (gv_in 692 (by decide +kernel) rfl), (gv_in 693 (by decide +kernel) rfl), (gv_in 694 (by decide +kernel) rfl)⟩
theorem gc_L_23 : gv_cV RL 23 m_X7_page 0 := ⟨gb_X7_page, (gv_in 275 (by decide +kernel) rfl), (gv_in 276 (by decide +kernel) rfl), (gv_in 277 (by decide +kernel) rfl)⟩
theorem gc_L_26 : gv_cV RL 26 m_X8_page 0 := ⟨gb_X8_page, (gv_in 696 (by decide +kernel) rfl), (gv_in 697 (by decide +kernel) rfl), (gv_in 698 (by decide +kernel) rfl)⟩
theorem gc_L_27 : gv_cV RL 27 m_X7_letter 2 := ⟨gb_X7_letter, (gv_in 340 (by decide +kernel) rfl), (gv_in 341 (by decide +kernel) rfl), (gv_in 342 (by decide +kernel) rfl)⟩
theorem gc_L_31 : gv_cV RL 31 m_X8_letter 2 := ⟨gb_X8_letter, (gv_in 732 (by decide +kernel) rfl), (gv_in 733 (by decide +kernel) rfl), (gv_in 734 (by decide +kernel) rfl)⟩
theorem gc_L_32 : gv_cV RL 32 m_X7_line 2 := ⟨gb_X7_line, (gv_in 347 (by decide +kernel) rfl), (gv_in 348 (by decide +kernel) rfl), (gv_in 349 (by decide +kernel) rfl)⟩
theorem gc_L_35 : gv_cV RL 35 m_X8_line 2 := ⟨gb_X8_line, (gv_in 736 (by decide +kernel) rfl), (gv_in 737 (by decide +kernel) rfl), (gv_in 738 (by decide +kernel) rfl)⟩
theorem gc_L_36 : gv_cV RL 36 m_X7_dots 2 := ⟨gb_X7_dots, (gv_in 352 (by decide +kernel) rfl), (gv_in 353 (by decide +kernel) rfl), (gv_in 354 (by decide +kernel) rfl)⟩
theorem gc_L_39 : gv_cV RL 39 m_X8_dots 2 := ⟨gb_X8_dots, (gv_in 744 (by decide +kernel) rfl), (gv_in 745 (by decide +kernel) rfl), (gv_in 746 (by decide +kernel) rfl)⟩
theorem gc_L_40 : gv_cV RL 40 m_X7_draws 3 := ⟨gb_X7_draws, (gv_in 363 (by decide +kernel) rfl), (gv_in 364 (by decide +kernel) rfl), (gv_in 365 (by decide +kernel) rfl)⟩
theorem gc_L_44 : gv_cV RL 44 m_X8_draws 3 := ⟨gb_X8_draws, (gv_in 752 (by decide +kernel) rfl), (gv_in 753 (by decide +kernel) rfl), (gv_in 754 (by decide +kernel) rfl)⟩
theorem gc_L_45 : gv_cV RL 45 m_X7_types 2 := ⟨gb_X7_types, (gv_in 376 (by decide +kernel) rfl), (gv_in 377 (by decide +kernel) rfl), (gv_in 378 (by decide +kernel) rfl)⟩
theorem gc_L_48 : gv_cV RL 48 m_X8_types 2 := ⟨gb_X8_types, (gv_in 764 (by decide +kernel) rfl), (gv_in 765 (by decide +kernel) rfl), (gv_in 766 (by decide +kernel) rfl)⟩
theorem gc_L_49 : gv_cV RL 49 m_X7_strikes 1 := ⟨gb_X7_strikes, (gv_in 382 (by decide +kernel) rfl), (gv_in 383 (by decide +kernel) rfl), (gv_in 384 (by decide +kernel) rfl)⟩
theorem gc_L_52 : gv_cV RL 52 m_X8_strikes 1 := ⟨gb_X8_strikes, (gv_in 768 (by decide +kernel) rfl), (gv_in 769 (by decide +kernel) rfl), (gv_in 770 (by decide +kernel) rfl)⟩
theorem gc_L_53 : gv_cV RL 53 m_X7_sets 2 := ⟨gb_X7_sets, (gv_in 390 (by decide +kernel) rfl), (gv_in 391 (by decide +kernel) rfl), (gv_in 392 (by decide +kernel) rfl)⟩
theorem gc_L_56 : gv_cV RL 56 m_X8_sets 2 := ⟨gb_X8_sets, (gv_in 772 (by decide +kernel) rfl), (gv_in 773 (by decide +kernel) rfl), (gv_in 774 (by decide +kernel) rfl)⟩
theorem gc_L_57 : gv_cV RL 57 m_X7_undo 0 := ⟨gb_X7_undo, (gv_in 395 (by decide +kernel) rfl), (gv_in 396 (by decide +kernel) rfl), (gv_in 397 (by decide +kernel) rfl)⟩
theorem gc_L_60 : gv_cV RL 60 m_X8_undo 0 := ⟨gb_X8_undo, (gv_in 782 (by decide +kernel) rfl), (gv_in 783 (by decide +kernel) rfl), (gv_in 784 (by decide +kernel) rfl)⟩
theorem gc_L_61 : gv_cV RL 61 m_X7_passes 1 := ⟨gb_X7_passes, (gv_in 409 (by decide +kernel) rfl), (gv_in 410 (by decide +kernel) rfl), (gv_in 411 (by decide +kernel) rfl)⟩
theorem gc_L_64 : gv_cV RL 64 m_X8_passes 1 := ⟨gb_X8_passes, (gv_in 786 (by decide +kernel) rfl), (gv_in 787 (by decide +kernel) rfl), (gv_in 788 (by decide +kernel) rfl)⟩
theorem gc_L_65 : gv_cV RL 65 m_X7_pass 3 := ⟨gb_X7_pass, (gv_in 435 (by decide +kernel) rfl), (gv_in 436 (by decide +kernel) rfl), (gv_in 437 (by decide +kernel) rfl)⟩
theorem gc_L_68 : gv_cV RL 68 m_X8_pass 3 := ⟨gb_X8_pass, (gv_in 805 (by decide +kernel) rfl), (gv_in 806 (by decide +kernel) rfl), (gv_in 807 (by decide +kernel) rfl)⟩
theorem gc_L_69 : gv_cV RL 69 m_X7_span 3 := ⟨gb_X7_span, (gv_in 446 (by decide +kernel) rfl), (gv_in 447 (by decide +kernel) rfl), (gv_in 448 (by decide +kernel) rfl)⟩
theorem gc_L_72 : gv_cV RL 72 m_X8_span 3 := ⟨gb_X8_span, (gv_in 812 (by decide +kernel) rfl), (gv_in 813 (by decide +kernel) rfl), (gv_in 814 (by decide +kernel) rfl)⟩
theorem gc_L_73 : gv_cV RL 73 m_X7_goes 2 := ⟨gb_X7_goes, (gv_in 473 (by decide +kernel) rfl), (gv_in 474 (by decide +kernel) rfl), (gv_in 475 (by decide +kernel) rfl)⟩
theorem gc_L_76 : gv_cV RL 76 m_X8_goes 2 := ⟨gb_X8_goes, (gv_in 833 (by decide +kernel) rfl), (gv_in 834 (by decide +kernel) rfl), (gv_in 835 (by decide +kernel) rfl)⟩
theorem gc_L_77 : gv_cV RL 77 m_X7_stands 3 := ⟨gb_X7_stands, (gv_in 510 (by decide +kernel) rfl), (gv_in 511 (by decide +kernel) rfl), (gv_in 512 (by decide +kernel) rfl)⟩
theorem gc_L_80 : gv_cV RL 80 m_X8_stands 3 := ⟨gb_X8_stands, (gv_in 829 (by decide +kernel) rfl), (gv_in 830 (by decide +kernel) rfl), (gv_in 831 (by decide +kernel) rfl)⟩
theorem gc_L_81 : gv_cV RL 81 m_X7_way 1 := ⟨gb_X7_way, (gv_in 516 (by decide +kernel) rfl), (gv_in 517 (by decide +kernel) rfl), (gv_in 518 (by decide +kernel) rfl)⟩
theorem gc_L_84 : gv_cV RL 84 m_X8_way 1 := ⟨gb_X8_way, (gv_in 853 (by decide +kernel) rfl), (gv_in 854 (by decide +kernel) rfl), (gv_in 855 (by decide +kernel) rfl)⟩
theorem gc_L_85 : gv_cV RL 85 m_X7_wear 1 := ⟨gb_X7_wear, (gv_in 520 (by decide +kernel) rfl), (gv_in 521 (by decide +kernel) rfl), (gv_in 522 (by decide +kernel) rfl)⟩
theorem gc_L_88 : gv_cV RL 88 m_X8_wear 1 := ⟨gb_X8_wear, (gv_in 857 (by decide +kernel) rfl), (gv_in 858 (by decide +kernel) rfl), (gv_in 859 (by decide +kernel) rfl)⟩
theorem gc_L_89 : gv_cV RL 89 m_X7_crowd 2 := ⟨gb_X7_crowd, (gv_in 533 (by decide +kernel) rfl), (gv_in 534 (by decide +kernel) rfl), (gv_in 535 (by decide +kernel) rfl)⟩
theorem gc_L_92 : gv_cV RL 92 m_X8_crowd 2 := ⟨gb_X8_crowd, (gv_in 865 (by decide +kernel) rfl), (gv_in 866 (by decide +kernel) rfl), (gv_in 867 (by decide +kernel) rfl)⟩
theorem gc_L_93 : gv_cV RL 93 m_X7_easy 1 := ⟨gb_X7_easy, (gv_in 538 (by decide +kernel) rfl), (gv_in 539 (by decide +kernel) rfl), (gv_in 540 (by decide +kernel) rfl)⟩
theorem gc_L_96 : gv_cV RL 96 m_X8_easy 1 := ⟨gb_X8_easy, (gv_in 873 (by decide +kernel) rfl), (gv_in 874 (by decide +kernel) rfl), (gv_in 875 (by decide +kernel) rfl)⟩
theorem gc_L_97 : gv_cV RL 97 m_X7_place 2 := ⟨gb_X7_place, (gv_in 548 (by decide +kernel) rfl), (gv_in 549 (by decide +kernel) rfl), (gv_in 550 (by decide +kernel) rfl)⟩
theorem gc_L_100 : gv_cV RL 100 m_X8_place 2 := ⟨gb_X8_place, (gv_in 881 (by decide +kernel) rfl), (gv_in 882 (by decide +kernel) rfl), (gv_in 883 (by decide +kernel) rfl)⟩
theorem gc_L_101 : gv_cV RL 101 m_X7_sees 2 := ⟨gb_X7_sees, (gv_in 552 (by decide +kernel) rfl), (gv_in 553 (by decide +kernel) rfl), (gv_in 554 (by decide +kernel) rfl)⟩
theorem gc_L_104 : gv_cV RL 104 m_X8_sees 2 := ⟨gb_X8_sees, (gv_in 885 (by decide +kernel) rfl), (gv_in 886 (by decide +kernel) rfl), (gv_in 887 (by decide +kernel) rfl)⟩
theorem gc_L_105 : gv_cV RL 105 m_X7_forget 0 := ⟨gb_X7_forget, (gv_in 560 (by decide +kernel) rfl), (gv_in 561 (by decide +kernel) rfl), (gv_in 562 (by decide +kernel) rfl)⟩
theorem gc_L_108 : gv_cV RL 108 m_X8_forget 0 := ⟨gb_X8_forget, (gv_in 889 (by decide +kernel) rfl), (gv_in 890 (by decide +kernel) rfl), (gv_in 891 (by decide +kernel) rfl)⟩
theorem gc_L_109 : gv_cV RL 109 m_X7_unseen 0 := ⟨gb_X7_unseen, (gv_in 564 (by decide +kernel) rfl), (gv_in 565 (by decide +kernel) rfl), (gv_in 566 (by decide +kernel) rfl)⟩
theorem gc_L_112 : gv_cV RL 112 m_X8_unseen 0 := ⟨gb_X8_unseen, (gv_in 893 (by decide +kernel) rfl), (gv_in 894 (by decide +kernel) rfl), (gv_in 895 (by decide +kernel) rfl)⟩
theorem gc_L_113 : gv_cV RL 113 m_X7_ask 0 := ⟨gb_X7_ask, (gv_in 586 (by decide +kernel) rfl), (gv_in 587 (by decide +kernel) rfl), (gv_in 588 (by decide +kernel) rfl)⟩
theorem gc_L_116 : gv_cV RL 116 m_X8_ask 0 := ⟨gb_X8_ask, (gv_in 905 (by decide +kernel) rfl), (gv_in 906 (by decide +kernel) rfl), (gv_in 907 (by decide +kernel) rfl)⟩
theorem gc_L_117 : gv_cV RL 117 m_X7_keep 1 := ⟨gb_X7_keep, (gv_in 595 (by decide +kernel) rfl), (gv_in 596 (by decide +kernel) rfl), (gv_in 597 (by decide +kernel) rfl)⟩
theorem gc_L_120 : gv_cV RL 120 m_X8_keep 1 := ⟨gb_X8_keep, (gv_in 913 (by decide +kernel) rfl), (gv_in 914 (by decide +kernel) rfl), (gv_in 915 (by decide +kernel) rfl)⟩
theorem gc_L_121 : gv_cV RL 121 m_X7_back 1 := ⟨gb_X7_back, (gv_in 599 (by decide +kernel) rfl), (gv_in 600 (by decide +kernel) rfl), (gv_in 601 (by decide +kernel) rfl)⟩
theorem gc_L_124 : gv_cV RL 124 m_X8_back 1 := ⟨gb_X8_back, (gv_in 917 (by decide +kernel) rfl), (gv_in 918 (by decide +kernel) rfl), (gv_in 919 (by decide +kernel) rfl)⟩
theorem gc_L_125 : gv_cV RL 125 m_X7_count 1 := ⟨gb_X7_count, (gv_in 603 (by decide +kernel) rfl), (gv_in 604 (by decide +kernel) rfl), (gv_in 605 (by decide +kernel) rfl)⟩
theorem gc_L_128 : gv_cV RL 128 m_X8_count 1 := ⟨gb_X8_count, (gv_in 921 (by decide +kernel) rfl), (gv_in 922 (by decide +kernel) rfl), (gv_in 923 (by decide +kernel) rfl)⟩
theorem gc_X0_92 : Cond.methodLink RX0 92 Lib.Math.abs.name ∈ gv_W ∧ Cond.static Lib.Math.abs.name ∈ gv_W ∧ Cond.initialized "java/lang/Math" ∈ gv_W ∧ Cond.code Lib.Math.abs.name Lib.Math.abs.code 1 (some .int) ∈ gv_W := ⟨(gv_in 499 (by decide +kernel) rfl), (gv_in 500 (by decide +kernel) rfl), (gv_in 47 (by decide +kernel) rfl), (gv_in 501 (by decide +kernel) rfl)⟩
theorem gc_X0_3 : Cond.methodLink RX0 3 objectInit ∈ gv_W ∧ Cond.instanceMethod objectInit ∈ gv_W ∧ Cond.code objectInit ⟨#[0xb1]⟩ 1 none ∈ gv_W := ⟨(gv_in 197 (by decide +kernel) rfl), (gv_in 55 (by decide +kernel) rfl), (gv_in 56 (by decide +kernel) rfl)⟩
theorem gc_X0_86 : gv_cV RX0 86 m_X0_fromLeft 2 := ⟨gb_X0_fromLeft, (gv_in 495 (by decide +kernel) rfl), (gv_in 496 (by decide +kernel) rfl), (gv_in 497 (by decide +kernel) rfl)⟩
theorem gc_X0_89 : gv_cV RX0 89 m_X0_fromRight 2 := ⟨gb_X0_fromRight, (gv_in 502 (by decide +kernel) rfl), (gv_in 503 (by decide +kernel) rfl), (gv_in 504 (by decide +kernel) rfl)⟩
theorem gc_X0_63 : Cond.methodLink RX0 63 Lib.Math.min.name ∈ gv_W ∧ Cond.static Lib.Math.min.name ∈ gv_W ∧ Cond.initialized "java/lang/Math" ∈ gv_W ∧ Cond.code Lib.Math.min.name Lib.Math.min.code 2 (some .int) ∈ gv_W := ⟨(gv_in 466 (by decide +kernel) rfl), (gv_in 467 (by decide +kernel) rfl), (gv_in 47 (by decide +kernel) rfl), (gv_in 468 (by decide +kernel) rfl)⟩
theorem gc_X0_80 : gv_cV RX0 80 m_X0_isUsed 1 := ⟨gb_X0_isUsed, (gv_in 487 (by decide +kernel) rfl), (gv_in 488 (by decide +kernel) rfl), (gv_in 489 (by decide +kernel) rfl)⟩
theorem gc_X0_83 : gv_cV RX0 83 m_X0_leastFrom 2 := ⟨gb_X0_leastFrom, (gv_in 491 (by decide +kernel) rfl), (gv_in 492 (by decide +kernel) rfl), (gv_in 493 (by decide +kernel) rfl)⟩
theorem gc_X0_30 : gv_cV RX0 30 m_X6_lay 2 := ⟨gb_X6_lay, (gv_in 455 (by decide +kernel) rfl), (gv_in 418 (by decide +kernel) rfl), (gv_in 419 (by decide +kernel) rfl)⟩
theorem gc_X0_41 : gv_cV RX0 41 m_X1_deal 3 := ⟨gb_X1_deal, (gv_in 456 (by decide +kernel) rfl), (gv_in 423 (by decide +kernel) rfl), (gv_in 424 (by decide +kernel) rfl)⟩
theorem gc_X0_47 : Cond.methodLink RX0 47 Lib.Math.max.name ∈ gv_W ∧ Cond.static Lib.Math.max.name ∈ gv_W ∧ Cond.initialized "java/lang/Math" ∈ gv_W ∧ Cond.code Lib.Math.max.name Lib.Math.max.code 2 (some .int) ∈ gv_W := ⟨(gv_in 457 (by decide +kernel) rfl), (gv_in 432 (by decide +kernel) rfl), (gv_in 47 (by decide +kernel) rfl), (gv_in 433 (by decide +kernel) rfl)⟩
theorem gc_X0_56 : gv_cV RX0 56 m_X4_headAt 2 := ⟨gb_X4_headAt, (gv_in 458 (by decide +kernel) rfl), (gv_in 459 (by decide +kernel) rfl), (gv_in 460 (by decide +kernel) rfl)⟩
theorem gc_X0_59 : gv_cV RX0 59 m_X0_widen 2 := ⟨gb_X0_widen, (gv_in 462 (by decide +kernel) rfl), (gv_in 463 (by decide +kernel) rfl), (gv_in 464 (by decide +kernel) rfl)⟩
theorem gc_X0_66 : gv_cV RX0 66 m_X4_hasLine 1 := ⟨gb_X4_hasLine, (gv_in 481 (by decide +kernel) rfl), (gv_in 330 (by decide +kernel) rfl), (gv_in 331 (by decide +kernel) rfl)⟩
theorem gc_X0_70 : gv_cV RX0 70 m_X0_measure 4 := ⟨gb_X0_measure, (gv_in 482 (by decide +kernel) rfl), (gv_in 452 (by decide +kernel) rfl), (gv_in 453 (by decide +kernel) rfl)⟩
theorem gc_X0_74 : gv_cV RX0 74 m_X0_lookAhead 0 := ⟨gb_X0_lookAhead, (gv_in 483 (by decide +kernel) rfl), (gv_in 484 (by decide +kernel) rfl), (gv_in 485 (by decide +kernel) rfl)⟩
theorem gc_X0_77 : gv_cV RX0 77 m_X0_walk 0 := ⟨gb_X0_walk, (gv_in 506 (by decide +kernel) rfl), (gv_in 507 (by decide +kernel) rfl), (gv_in 508 (by decide +kernel) rfl)⟩
theorem gc_X1_18 : gv_cV RX1 18 m_X6_hasDot 2 := ⟨gb_X6_hasDot, (gv_in 426 (by decide +kernel) rfl), (gv_in 427 (by decide +kernel) rfl), (gv_in 428 (by decide +kernel) rfl)⟩
theorem gc_X1_24 : Cond.methodLink RX1 24 Lib.Math.max.name ∈ gv_W ∧ Cond.static Lib.Math.max.name ∈ gv_W ∧ Cond.initialized "java/lang/Math" ∈ gv_W ∧ Cond.code Lib.Math.max.name Lib.Math.max.code 2 (some .int) ∈ gv_W := ⟨(gv_in 431 (by decide +kernel) rfl), (gv_in 432 (by decide +kernel) rfl), (gv_in 47 (by decide +kernel) rfl), (gv_in 433 (by decide +kernel) rfl)⟩
theorem gc_X1_3 : Cond.methodLink RX1 3 objectInit ∈ gv_W ∧ Cond.instanceMethod objectInit ∈ gv_W ∧ Cond.code objectInit ⟨#[0xb1]⟩ 1 none ∈ gv_W := ⟨(gv_in 182 (by decide +kernel) rfl), (gv_in 55 (by decide +kernel) rfl), (gv_in 56 (by decide +kernel) rfl)⟩
theorem gc_X2_3 : Cond.methodLink RX2 3 objectInit ∈ gv_W ∧ Cond.instanceMethod objectInit ∈ gv_W ∧ Cond.code objectInit ⟨#[0xb1]⟩ 1 none ∈ gv_W := ⟨(gv_in 131 (by decide +kernel) rfl), (gv_in 55 (by decide +kernel) rfl), (gv_in 56 (by decide +kernel) rfl)⟩
theorem gc_X2_28 : Cond.methodLink RX2 28 arraycopyName ∈ gv_W ∧ Cond.native arraycopyName ∈ gv_W ∧ Cond.static arraycopyName ∈ gv_W ∧ Cond.initialized "java/lang/System" ∈ gv_W := ⟨(gv_in 375 (by decide +kernel) rfl), (gv_in 339 (by decide +kernel) rfl), (gv_in 338 (by decide +kernel) rfl), (gv_in 46 (by decide +kernel) rfl)⟩
theorem gc_X2_25 : gv_cV RX2 25 m_X2_loseOldest 0 := ⟨gb_X2_loseOldest, (gv_in 371 (by decide +kernel) rfl), (gv_in 372 (by decide +kernel) rfl), (gv_in 373 (by decide +kernel) rfl)⟩
theorem gc_X2_39 : gv_cV RX2 39 m_X4_chop 1 := ⟨gb_X4_chop, (gv_in 403 (by decide +kernel) rfl), (gv_in 387 (by decide +kernel) rfl), (gv_in 388 (by decide +kernel) rfl)⟩
theorem gc_X2_43 : gv_cV RX2 43 m_X4_dropLast 0 := ⟨gb_X4_dropLast, (gv_in 404 (by decide +kernel) rfl), (gv_in 405 (by decide +kernel) rfl), (gv_in 406 (by decide +kernel) rfl)⟩
theorem gc_X2_46 : gv_cV RX2 46 m_X4_append 2 := ⟨gb_X4_append, (gv_in 408 (by decide +kernel) rfl), (gv_in 326 (by decide +kernel) rfl), (gv_in 327 (by decide +kernel) rfl)⟩
theorem gc_X3_77 : gv_cS RX3 77 m_X3_isDigit 1 := ⟨gb_X3_isDigit, (gv_in 288 (by decide +kernel) rfl), (gv_in 289 (by decide +kernel) rfl)⟩
theorem gc_X3_81 : gv_cV RX3 81 m_X3_advanceOverNumber 0 := ⟨gb_X3_advanceOverNumber, (gv_in 291 (by decide +kernel) rfl), (gv_in 292 (by decide +kernel) rfl), (gv_in 293 (by decide +kernel) rfl)⟩
theorem gc_X3_3 : Cond.methodLink RX3 3 objectInit ∈ gv_W ∧ Cond.instanceMethod objectInit ∈ gv_W ∧ Cond.code objectInit ⟨#[0xb1]⟩ 1 none ∈ gv_W := ⟨(gv_in 62 (by decide +kernel) rfl), (gv_in 55 (by decide +kernel) rfl), (gv_in 56 (by decide +kernel) rfl)⟩
theorem gc_X3_19 : gv_cV RX3 19 m_X4_reset 0 := ⟨gb_X4_reset, (gv_in 283 (by decide +kernel) rfl), (gv_in 91 (by decide +kernel) rfl), (gv_in 92 (by decide +kernel) rfl)⟩
theorem gc_X3_27 : gv_cV RX3 27 m_X3_advance 0 := ⟨gb_X3_advance, (gv_in 284 (by decide +kernel) rfl), (gv_in 285 (by decide +kernel) rfl), (gv_in 286 (by decide +kernel) rfl)⟩
theorem gc_X3_33 : gv_cV RX3 33 m_X3_readItem 1 := ⟨gb_X3_readItem, (gv_in 295 (by decide +kernel) rfl), (gv_in 296 (by decide +kernel) rfl), (gv_in 297 (by decide +kernel) rfl)⟩
theorem gc_X3_40 : gv_cV RX3 40 m_X3_readSetting 2 := ⟨gb_X3_readSetting, (gv_in 299 (by decide +kernel) rfl), (gv_in 300 (by decide +kernel) rfl), (gv_in 301 (by decide +kernel) rfl)⟩
theorem gc_X3_44 : gv_cV RX3 44 m_X3_readShape 1 := ⟨gb_X3_readShape, (gv_in 310 (by decide +kernel) rfl), (gv_in 311 (by decide +kernel) rfl), (gv_in 312 (by decide +kernel) rfl)⟩
theorem gc_X3_47 : gv_cV RX3 47 m_X3_readLine 1 := ⟨gb_X3_readLine, (gv_in 317 (by decide +kernel) rfl), (gv_in 318 (by decide +kernel) rfl), (gv_in 319 (by decide +kernel) rfl)⟩
theorem gc_X3_67 : gv_cV RX3 67 m_X4_begin 0 := ⟨gb_X4_begin, (gv_in 321 (by decide +kernel) rfl), (gv_in 322 (by decide +kernel) rfl), (gv_in 323 (by decide +kernel) rfl)⟩
theorem gc_X3_60 : gv_cS RX3 60 m_X3_letterOf 1 := ⟨gb_X3_letterOf, (gv_in 314 (by decide +kernel) rfl), (gv_in 315 (by decide +kernel) rfl)⟩
theorem gc_X3_74 : gv_cV RX3 74 m_X4_append 2 := ⟨gb_X4_append, (gv_in 325 (by decide +kernel) rfl), (gv_in 326 (by decide +kernel) rfl), (gv_in 327 (by decide +kernel) rfl)⟩
theorem gc_X3_53 : gv_cSN RX3 53 m_X7_mayBeSet 2 := ⟨gb_X7_mayBeSet, ⟨"StrikePasses", List.mem_of_getElem? (i := 303) (by decide +kernel)⟩, (gv_in 304 (by decide +kernel) rfl)⟩
theorem gc_X4_46 : gv_cV RX4 46 m_X4_hasLine 1 := ⟨gb_X4_hasLine, (gv_in 329 (by decide +kernel) rfl), (gv_in 330 (by decide +kernel) rfl), (gv_in 331 (by decide +kernel) rfl)⟩
theorem gc_X4_40 : Cond.methodLink RX4 40 arraycopyName ∈ gv_W ∧ Cond.native arraycopyName ∈ gv_W ∧ Cond.static arraycopyName ∈ gv_W ∧ Cond.initialized "java/lang/System" ∈ gv_W := ⟨(gv_in 337 (by decide +kernel) rfl), (gv_in 339 (by decide +kernel) rfl), (gv_in 338 (by decide +kernel) rfl), (gv_in 46 (by decide +kernel) rfl)⟩
theorem gc_X4_3 : Cond.methodLink RX4 3 objectInit ∈ gv_W ∧ Cond.instanceMethod objectInit ∈ gv_W ∧ Cond.code objectInit ⟨#[0xb1]⟩ 1 none ∈ gv_W := ⟨(gv_in 89 (by decide +kernel) rfl), (gv_in 55 (by decide +kernel) rfl), (gv_in 56 (by decide +kernel) rfl)⟩
theorem gc_X4_24 : gv_cV RX4 24 m_X4_reset 0 := ⟨gb_X4_reset, (gv_in 90 (by decide +kernel) rfl), (gv_in 91 (by decide +kernel) rfl), (gv_in 92 (by decide +kernel) rfl)⟩
theorem gc_X4_30 : gv_cS RX4 30 m_J7_fill_53178 2 := ⟨gb_J7_fill_53178, (gv_in 96 (by decide +kernel) rfl), (gv_in 97 (by decide +kernel) rfl)⟩
theorem gc_X5_3 : Cond.methodLink RX5 3 objectInit ∈ gv_W ∧ Cond.instanceMethod objectInit ∈ gv_W ∧ Cond.code objectInit ⟨#[0xb1]⟩ 1 none ∈ gv_W := ⟨(gv_in 151 (by decide +kernel) rfl), (gv_in 55 (by decide +kernel) rfl), (gv_in 56 (by decide +kernel) rfl)⟩
theorem gc_X6_31 : gv_cV RX6 31 m_X6_amountFrom 3 := ⟨gb_X6_amountFrom, (gv_in 528 (by decide +kernel) rfl), (gv_in 529 (by decide +kernel) rfl), (gv_in 530 (by decide +kernel) rfl)⟩
theorem gc_X6_35 : gv_cV RX6 35 m_X6_hasDot 2 := ⟨gb_X6_hasDot, (gv_in 532 (by decide +kernel) rfl), (gv_in 427 (by decide +kernel) rfl), (gv_in 428 (by decide +kernel) rfl)⟩
theorem gc_X6_21 : gv_cSN RX6 21 m_X7_isColumn 1 := ⟨gb_X7_isColumn, ⟨"StrikePasses", List.mem_of_getElem? (i := 430) (by decide +kernel)⟩, (gv_in 357 (by decide +kernel) rfl)⟩
theorem gc_X6_3 : Cond.methodLink RX6 3 objectInit ∈ gv_W ∧ Cond.instanceMethod objectInit ∈ gv_W ∧ Cond.code objectInit ⟨#[0xb1]⟩ 1 none ∈ gv_W := ⟨(gv_in 171 (by decide +kernel) rfl), (gv_in 55 (by decide +kernel) rfl), (gv_in 56 (by decide +kernel) rfl)⟩
theorem gc_X6_15 : gv_cV RX6 15 m_X4_inkAt 2 := ⟨gb_X4_inkAt, (gv_in 421 (by decide +kernel) rfl), (gv_in 360 (by decide +kernel) rfl), (gv_in 361 (by decide +kernel) rfl)⟩
theorem gc_X6_39 : Cond.methodLink RX6 39 Lib.Math.min.name ∈ gv_W ∧ Cond.static Lib.Math.min.name ∈ gv_W ∧ Cond.initialized "java/lang/Math" ∈ gv_W ∧ Cond.code Lib.Math.min.name Lib.Math.min.code 2 (some .int) ∈ gv_W := ⟨(gv_in 546 (by decide +kernel) rfl), (gv_in 467 (by decide +kernel) rfl), (gv_in 47 (by decide +kernel) rfl), (gv_in 468 (by decide +kernel) rfl)⟩
theorem gc_X6_25 : gv_cS RX6 25 m_J6_bitCount_0f7a4 1 := ⟨gb_J6_bitCount_0f7a4, (gv_in 580 (by decide +kernel) rfl), (gv_in 581 (by decide +kernel) rfl)⟩
theorem gc_X7_148 : gv_cV RX7 148 m_X6_lay 2 := ⟨gb_X6_lay, (gv_in 417 (by decide +kernel) rfl), (gv_in 418 (by decide +kernel) rfl), (gv_in 419 (by decide +kernel) rfl)⟩
theorem gc_X7_242 : gv_cV RX7 242 m_X6_total 0 := ⟨gb_X6_total, (gv_in 576 (by decide +kernel) rfl), (gv_in 577 (by decide +kernel) rfl), (gv_in 578 (by decide +kernel) rfl)⟩
theorem gc_X7_141 : gv_cV RX7 141 m_X7_passesOf 1 := ⟨gb_X7_passesOf, (gv_in 413 (by decide +kernel) rfl), (gv_in 415 (by decide +kernel) rfl), (gv_in 0 (by decide +kernel) rfl)⟩
theorem gc_X7_215 : gv_cV RX7 215 m_X7_suspects 0 := ⟨gb_X7_suspects, (gv_in 568 (by decide +kernel) rfl), (gv_in 570 (by decide +kernel) rfl), (gv_in 2 (by decide +kernel) rfl)⟩
theorem gc_X7_219 : gv_cS RX7 219 m_J6_bitCount_0f7a4 1 := ⟨gb_J6_bitCount_0f7a4, (gv_in 590 (by decide +kernel) rfl), (gv_in 581 (by decide +kernel) rfl)⟩
theorem gc_X7_224 : gv_cV RX7 224 m_X7_unlikeNumbers 2 := ⟨gb_X7_unlikeNumbers, (gv_in 591 (by decide +kernel) rfl), (gv_in 593 (by decide +kernel) rfl), (gv_in 4 (by decide +kernel) rfl)⟩
theorem gc_X7_81 : gv_cV RX7 81 m_X4_become 1 := ⟨gb_X4_become, (gv_in 333 (by decide +kernel) rfl), (gv_in 334 (by decide +kernel) rfl), (gv_in 335 (by decide +kernel) rfl)⟩
theorem gc_X7_227 : gv_cV RX7 227 m_X7_allDots 0 := ⟨gb_X7_allDots, (gv_in 607 (by decide +kernel) rfl), (gv_in 609 (by decide +kernel) rfl), (gv_in 5 (by decide +kernel) rfl)⟩
theorem gc_X7_230 : gv_cV RX7 230 m_X7_allPasses 0 := ⟨gb_X7_allPasses, (gv_in 611 (by decide +kernel) rfl), (gv_in 613 (by decide +kernel) rfl), (gv_in 6 (by decide +kernel) rfl)⟩
theorem gc_X7_97 : gv_cV RX7 97 m_X4_hasLine 1 := ⟨gb_X4_hasLine, (gv_in 351 (by decide +kernel) rfl), (gv_in 330 (by decide +kernel) rfl), (gv_in 331 (by decide +kernel) rfl)⟩
theorem gc_X7_201 : gv_cV RX7 201 m_X6_amountFrom 3 := ⟨gb_X6_amountFrom, (gv_in 537 (by decide +kernel) rfl), (gv_in 529 (by decide +kernel) rfl), (gv_in 530 (by decide +kernel) rfl)⟩
theorem gc_X7_106 : gv_cS RX7 106 m_X7_isColumn 1 := ⟨gb_X7_isColumn, (gv_in 356 (by decide +kernel) rfl), (gv_in 357 (by decide +kernel) rfl)⟩
theorem gc_X7_109 : gv_cV RX7 109 m_X4_inkAt 2 := ⟨gb_X4_inkAt, (gv_in 359 (by decide +kernel) rfl), (gv_in 360 (by decide +kernel) rfl), (gv_in 361 (by decide +kernel) rfl)⟩
theorem gc_X7_89 : gv_cS RX7 89 m_X7_isColumnOfLetter 2 := ⟨gb_X7_isColumnOfLetter, (gv_in 344 (by decide +kernel) rfl), (gv_in 345 (by decide +kernel) rfl)⟩
theorem gc_X7_113 : gv_cV RX7 113 m_X2_note 3 := ⟨gb_X2_note, (gv_in 367 (by decide +kernel) rfl), (gv_in 368 (by decide +kernel) rfl), (gv_in 369 (by decide +kernel) rfl)⟩
theorem gc_X7_205 : gv_cV RX7 205 m_X6_leastGap 1 := ⟨gb_X6_leastGap, (gv_in 542 (by decide +kernel) rfl), (gv_in 543 (by decide +kernel) rfl), (gv_in 544 (by decide +kernel) rfl)⟩
theorem gc_X7_208 : Cond.methodLink RX7 208 Lib.Math.min.name ∈ gv_W ∧ Cond.static Lib.Math.min.name ∈ gv_W ∧ Cond.initialized "java/lang/Math" ∈ gv_W ∧ Cond.code Lib.Math.min.name Lib.Math.min.code 2 (some .int) ∈ gv_W := ⟨(gv_in 547 (by decide +kernel) rfl), (gv_in 467 (by decide +kernel) rfl), (gv_in 47 (by decide +kernel) rfl), (gv_in 468 (by decide +kernel) rfl)⟩
theorem gc_X7_198 : gv_cV RX7 198 m_X6_amount 1 := ⟨gb_X6_amount, (gv_in 524 (by decide +kernel) rfl), (gv_in 525 (by decide +kernel) rfl), (gv_in 526 (by decide +kernel) rfl)⟩
theorem gc_X7_173 : gv_cV RX7 173 m_X0_plan 3 := ⟨gb_X0_plan, (gv_in 477 (by decide +kernel) rfl), (gv_in 478 (by decide +kernel) rfl), (gv_in 479 (by decide +kernel) rfl)⟩
theorem gc_X7_164 : gv_cV RX7 164 m_X0_slot 2 := ⟨gb_X0_slot, (gv_in 469 (by decide +kernel) rfl), (gv_in 470 (by decide +kernel) rfl), (gv_in 471 (by decide +kernel) rfl)⟩
theorem gc_X7_3 : Cond.methodLink RX7 3 objectInit ∈ gv_W ∧ Cond.instanceMethod objectInit ∈ gv_W ∧ Cond.code objectInit ⟨#[0xb1]⟩ 1 none ∈ gv_W := ⟨(gv_in 54 (by decide +kernel) rfl), (gv_in 55 (by decide +kernel) rfl), (gv_in 56 (by decide +kernel) rfl)⟩
theorem gc_X7_11 : gv_cIN RX7 11 m_X3_init 0 := ⟨gb_X3_init, ⟨"StrikePasses", List.mem_of_getElem? (i := 59) (by decide +kernel)⟩, (gv_in 60 (by decide +kernel) rfl), by decide +kernel, rfl⟩
theorem gc_X7_18 : gv_cI RX7 18 m_X4_init 0 := ⟨gb_X4_init, (gv_in 86 (by decide +kernel) rfl), (gv_in 87 (by decide +kernel) rfl), by decide +kernel, rfl⟩
theorem gc_X7_28 : gv_cIN RX7 28 m_X2_init 0 := ⟨gb_X2_init, ⟨"StrikePasses", List.mem_of_getElem? (i := 128) (by decide +kernel)⟩, (gv_in 129 (by decide +kernel) rfl), by decide +kernel, rfl⟩
theorem gc_X7_35 : gv_cIN RX7 35 m_X5_init 0 := ⟨gb_X5_init, ⟨"StrikePasses", List.mem_of_getElem? (i := 148) (by decide +kernel)⟩, (gv_in 149 (by decide +kernel) rfl), by decide +kernel, rfl⟩
theorem gc_X7_50 : gv_cIN RX7 50 m_X6_init 0 := ⟨gb_X6_init, ⟨"StrikePasses", List.mem_of_getElem? (i := 168) (by decide +kernel)⟩, (gv_in 169 (by decide +kernel) rfl), by decide +kernel, rfl⟩
theorem gc_X7_57 : gv_cIN RX7 57 m_X1_init 0 := ⟨gb_X1_init, ⟨"StrikePasses", List.mem_of_getElem? (i := 179) (by decide +kernel)⟩, (gv_in 180 (by decide +kernel) rfl), by decide +kernel, rfl⟩
theorem gc_X7_64 : gv_cIN RX7 64 m_X0_init 0 := ⟨gb_X0_init, ⟨"StrikePasses", List.mem_of_getElem? (i := 194) (by decide +kernel)⟩, (gv_in 195 (by decide +kernel) rfl), by decide +kernel, rfl⟩
theorem gc_X7_195 : gv_cS RX7 195 m_X7_isNeedle 1 := ⟨gb_X7_isNeedle, (gv_in 443 (by decide +kernel) rfl), (gv_in 444 (by decide +kernel) rfl)⟩
theorem gc_X7_77 : gv_cV RX7 77 m_X3_read 1 := ⟨gb_X3_read, (gv_in 279 (by decide +kernel) rfl), (gv_in 280 (by decide +kernel) rfl), (gv_in 281 (by decide +kernel) rfl)⟩
theorem gc_X7_144 : gv_cV RX7 144 m_X7_isPlace 3 := ⟨gb_X7_isPlace, (gv_in 439 (by decide +kernel) rfl), (gv_in 441 (by decide +kernel) rfl), (gv_in 1 (by decide +kernel) rfl)⟩
theorem gc_X7_152 : gv_cV RX7 152 m_X1_deal 3 := ⟨gb_X1_deal, (gv_in 422 (by decide +kernel) rfl), (gv_in 423 (by decide +kernel) rfl), (gv_in 424 (by decide +kernel) rfl)⟩
theorem gc_X7_239 : Cond.methodLink RX7 239 Lib.Math.max.name ∈ gv_W ∧ Cond.static Lib.Math.max.name ∈ gv_W ∧ Cond.initialized "java/lang/Math" ∈ gv_W ∧ Cond.code Lib.Math.max.name Lib.Math.max.code 2 (some .int) ∈ gv_W := ⟨(gv_in 434 (by decide +kernel) rfl), (gv_in 432 (by decide +kernel) rfl), (gv_in 47 (by decide +kernel) rfl), (gv_in 433 (by decide +kernel) rfl)⟩
theorem gc_X7_213 : gv_cV RX7 213 m_X5_note 2 := ⟨gb_X5_note, (gv_in 556 (by decide +kernel) rfl), (gv_in 557 (by decide +kernel) rfl), (gv_in 558 (by decide +kernel) rfl)⟩
theorem gc_X7_131 : gv_cS RX7 131 m_X7_mayBeSet 2 := ⟨gb_X7_mayBeSet, (gv_in 394 (by decide +kernel) rfl), (gv_in 304 (by decide +kernel) rfl)⟩
theorem gc_X7_160 : gv_cV RX7 160 m_X0_measure 4 := ⟨gb_X0_measure, (gv_in 451 (by decide +kernel) rfl), (gv_in 452 (by decide +kernel) rfl), (gv_in 453 (by decide +kernel) rfl)⟩
theorem gc_X7_180 : gv_cV RX7 180 m_X6_hasDot 2 := ⟨gb_X6_hasDot, (gv_in 514 (by decide +kernel) rfl), (gv_in 427 (by decide +kernel) rfl), (gv_in 428 (by decide +kernel) rfl)⟩
theorem gc_X7_183 : gv_cV RX7 183 m_X4_headAt 2 := ⟨gb_X4_headAt, (gv_in 515 (by decide +kernel) rfl), (gv_in 459 (by decide +kernel) rfl), (gv_in 460 (by decide +kernel) rfl)⟩
theorem gc_X7_127 : gv_cV RX7 127 m_X4_chop 1 := ⟨gb_X4_chop, (gv_in 386 (by decide +kernel) rfl), (gv_in 387 (by decide +kernel) rfl), (gv_in 388 (by decide +kernel) rfl)⟩
theorem gc_X7_250 : gv_cV RX7 250 m_X7_explaining 2 := ⟨gb_X7_explaining, (gv_in 572 (by decide +kernel) rfl), (gv_in 574 (by decide +kernel) rfl), (gv_in 3 (by decide +kernel) rfl)⟩
theorem gc_X7_69 : gv_cV RX7 69 m_X3_accept 1 := ⟨gb_X3_accept, (gv_in 267 (by decide +kernel) rfl), (gv_in 268 (by decide +kernel) rfl), (gv_in 269 (by decide +kernel) rfl)⟩
theorem gc_X7_120 : gv_cV RX7 120 m_X4_begin 0 := ⟨gb_X4_begin, (gv_in 380 (by decide +kernel) rfl), (gv_in 322 (by decide +kernel) rfl), (gv_in 323 (by decide +kernel) rfl)⟩
theorem gc_X7_124 : gv_cV RX7 124 m_X4_append 2 := ⟨gb_X4_append, (gv_in 381 (by decide +kernel) rfl), (gv_in 326 (by decide +kernel) rfl), (gv_in 327 (by decide +kernel) rfl)⟩
theorem gc_X7_137 : gv_cV RX7 137 m_X2_takeBack 1 := ⟨gb_X2_takeBack, (gv_in 399 (by decide +kernel) rfl), (gv_in 400 (by decide +kernel) rfl), (gv_in 401 (by decide +kernel) rfl)⟩
theorem gc_X8_180 : gv_cV RX8 180 m_X8_unseenSet 0 := ⟨gb_X8_unseenSet, (gv_in 897 (by decide +kernel) rfl), (gv_in 899 (by decide +kernel) rfl), (gv_in 31 (by decide +kernel) rfl)⟩
theorem gc_X8_184 : gv_cV RX8 184 m_X8_unlike 2 := ⟨gb_X8_unlike, (gv_in 909 (by decide +kernel) rfl), (gv_in 911 (by decide +kernel) rfl), (gv_in 33 (by decide +kernel) rfl)⟩
theorem gc_X8_45 : gv_cS RX8 45 m_X8_in 3 := ⟨gb_X8_in, (gv_in 689 (by decide +kernel) rfl), (gv_in 690 (by decide +kernel) rfl)⟩
theorem gc_X8_121 : gv_cV RX8 121 m_X8_columnsOf 2 := ⟨gb_X8_columnsOf, (gv_in 798 (by decide +kernel) rfl), (gv_in 800 (by decide +kernel) rfl), (gv_in 21 (by decide +kernel) rfl)⟩
theorem gc_X8_117 : gv_cS RX8 117 m_X8_has 2 := ⟨gb_X8_has, (gv_in 802 (by decide +kernel) rfl), (gv_in 803 (by decide +kernel) rfl)⟩
theorem gc_X8_97 : gv_cV RX8 97 m_X8_dotsAt 2 := ⟨gb_X8_dotsAt, (gv_in 748 (by decide +kernel) rfl), (gv_in 750 (by decide +kernel) rfl), (gv_in 16 (by decide +kernel) rfl)⟩
theorem gc_X8_187 : gv_cV RX8 187 m_X8_ofLines 1 := ⟨gb_X8_ofLines, (gv_in 925 (by decide +kernel) rfl), (gv_in 927 (by decide +kernel) rfl), (gv_in 34 (by decide +kernel) rfl)⟩
theorem gc_X8_94 : gv_cV RX8 94 m_X8_isLine 1 := ⟨gb_X8_isLine, (gv_in 740 (by decide +kernel) rfl), (gv_in 742 (by decide +kernel) rfl), (gv_in 15 (by decide +kernel) rfl)⟩
theorem gc_X8_171 : gv_cV RX8 171 m_X8_within 3 := ⟨gb_X8_within, (gv_in 869 (by decide +kernel) rfl), (gv_in 871 (by decide +kernel) rfl), (gv_in 29 (by decide +kernel) rfl)⟩
theorem gc_X8_107 : gv_cV RX8 107 m_X8_lays 2 := ⟨gb_X8_lays, (gv_in 756 (by decide +kernel) rfl), (gv_in 758 (by decide +kernel) rfl), (gv_in 17 (by decide +kernel) rfl)⟩
theorem gc_X8_174 : gv_cV RX8 174 m_X8_isEasy 2 := ⟨gb_X8_isEasy, (gv_in 877 (by decide +kernel) rfl), (gv_in 879 (by decide +kernel) rfl), (gv_in 30 (by decide +kernel) rfl)⟩
theorem gc_X8_128 : gv_cV RX8 128 m_X8_passesOf 1 := ⟨gb_X8_passesOf, (gv_in 790 (by decide +kernel) rfl), (gv_in 792 (by decide +kernel) rfl), (gv_in 19 (by decide +kernel) rfl)⟩
theorem gc_X8_162 : gv_cV RX8 162 m_X8_layWay 0 := ⟨gb_X8_layWay, (gv_in 837 (by decide +kernel) rfl), (gv_in 839 (by decide +kernel) rfl), (gv_in 25 (by decide +kernel) rfl)⟩
theorem gc_X8_165 : gv_cV RX8 165 m_X8_isBack 1 := ⟨gb_X8_isBack, (gv_in 849 (by decide +kernel) rfl), (gv_in 851 (by decide +kernel) rfl), (gv_in 27 (by decide +kernel) rfl)⟩
theorem gc_X8_124 : gv_cV RX8 124 m_X8_columnsIn 3 := ⟨gb_X8_columnsIn, (gv_in 794 (by decide +kernel) rfl), (gv_in 796 (by decide +kernel) rfl), (gv_in 20 (by decide +kernel) rfl)⟩
theorem gc_X8_134 : gv_cV RX8 134 m_X8_headAt 2 := ⟨gb_X8_headAt, (gv_in 821 (by decide +kernel) rfl), (gv_in 823 (by decide +kernel) rfl), (gv_in 23 (by decide +kernel) rfl)⟩
theorem gc_X8_1 : Cond.methodLink RX8 1 objectInit ∈ gv_W ∧ Cond.instanceMethod objectInit ∈ gv_W ∧ Cond.code objectInit ⟨#[0xb1]⟩ 1 none ∈ gv_W := ⟨(gv_in 620 (by decide +kernel) rfl), (gv_in 55 (by decide +kernel) rfl), (gv_in 56 (by decide +kernel) rfl)⟩
theorem gc_X8_41 : gv_cS RX8 41 m_X8_begins 1 := ⟨gb_X8_begins, (gv_in 621 (by decide +kernel) rfl), (gv_in 622 (by decide +kernel) rfl)⟩
theorem gc_X8_138 : gv_cV RX8 138 m_X8_lowOf 2 := ⟨gb_X8_lowOf, (gv_in 817 (by decide +kernel) rfl), (gv_in 819 (by decide +kernel) rfl), (gv_in 22 (by decide +kernel) rfl)⟩
theorem gc_X8_141 : gv_cV RX8 141 m_X8_highOf 2 := ⟨gb_X8_highOf, (gv_in 825 (by decide +kernel) rfl), (gv_in 827 (by decide +kernel) rfl), (gv_in 24 (by decide +kernel) rfl)⟩
theorem gc_X8_147 : gv_cV RX8 147 m_X8_layPasses 0 := ⟨gb_X8_layPasses, (gv_in 841 (by decide +kernel) rfl), (gv_in 843 (by decide +kernel) rfl), (gv_in 26 (by decide +kernel) rfl)⟩
theorem gc_X8_150 : gv_cS RX8 150 m_X8_far 2 := ⟨gb_X8_far, (gv_in 845 (by decide +kernel) rfl), (gv_in 846 (by decide +kernel) rfl)⟩
theorem gc_X8_104 : gv_cV RX8 104 m_X8_remembers 0 := ⟨gb_X8_remembers, (gv_in 760 (by decide +kernel) rfl), (gv_in 762 (by decide +kernel) rfl), (gv_in 18 (by decide +kernel) rfl)⟩
theorem gc_X8_56 : gv_cV RX8 56 m_X8_blanks 0 := ⟨gb_X8_blanks, (gv_in 700 (by decide +kernel) rfl), (gv_in 702 (by decide +kernel) rfl), (gv_in 7 (by decide +kernel) rfl)⟩
theorem gc_X8_65 : gv_cV RX8 65 m_X8_isFigure 1 := ⟨gb_X8_isFigure, (gv_in 712 (by decide +kernel) rfl), (gv_in 714 (by decide +kernel) rfl), (gv_in 10 (by decide +kernel) rfl)⟩
theorem gc_X8_69 : gv_cV RX8 69 m_X8_next 0 := ⟨gb_X8_next, (gv_in 708 (by decide +kernel) rfl), (gv_in 710 (by decide +kernel) rfl), (gv_in 9 (by decide +kernel) rfl)⟩
theorem gc_X8_177 : gv_cV RX8 177 m_X8_without 2 := ⟨gb_X8_without, (gv_in 901 (by decide +kernel) rfl), (gv_in 903 (by decide +kernel) rfl), (gv_in 32 (by decide +kernel) rfl)⟩
theorem gc_X8_85 : gv_cV RX8 85 m_X8_readsItem 0 := ⟨gb_X8_readsItem, (gv_in 704 (by decide +kernel) rfl), (gv_in 706 (by decide +kernel) rfl), (gv_in 8 (by decide +kernel) rfl)⟩
theorem gc_X8_131 : gv_cS RX8 131 m_X8_isDot 2 := ⟨gb_X8_isDot, (gv_in 809 (by decide +kernel) rfl), (gv_in 810 (by decide +kernel) rfl)⟩
theorem gc_X8_72 : gv_cV RX8 72 m_X8_number 3 := ⟨gb_X8_number, (gv_in 716 (by decide +kernel) rfl), (gv_in 718 (by decide +kernel) rfl), (gv_in 11 (by decide +kernel) rfl)⟩
theorem gc_X8_75 : gv_cV RX8 75 m_X8_stops 0 := ⟨gb_X8_stops, (gv_in 720 (by decide +kernel) rfl), (gv_in 722 (by decide +kernel) rfl), (gv_in 12 (by decide +kernel) rfl)⟩
theorem gc_X8_79 : gv_cV RX8 79 m_X8_readsLetter 0 := ⟨gb_X8_readsLetter, (gv_in 724 (by decide +kernel) rfl), (gv_in 726 (by decide +kernel) rfl), (gv_in 13 (by decide +kernel) rfl)⟩
theorem gc_X8_82 : gv_cV RX8 82 m_X8_readsLine 0 := ⟨gb_X8_readsLine, (gv_in 728 (by decide +kernel) rfl), (gv_in 730 (by decide +kernel) rfl), (gv_in 14 (by decide +kernel) rfl)⟩
theorem gc_X8_110 : gv_cS RX8 110 m_X8_least 1 := ⟨gb_X8_least, (gv_in 776 (by decide +kernel) rfl), (gv_in 777 (by decide +kernel) rfl)⟩
theorem gc_X8_114 : gv_cS RX8 114 m_X8_most 1 := ⟨gb_X8_most, (gv_in 779 (by decide +kernel) rfl), (gv_in 780 (by decide +kernel) rfl)⟩
theorem gc_X8_168 : gv_cV RX8 168 m_X8_dotMany 2 := ⟨gb_X8_dotMany, (gv_in 861 (by decide +kernel) rfl), (gv_in 863 (by decide +kernel) rfl), (gv_in 28 (by decide +kernel) rfl)⟩
