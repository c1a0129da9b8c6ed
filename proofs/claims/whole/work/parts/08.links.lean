/-! Links and methods, printed by wip/whole/gen_names.py out of the claim. -/
theorem ft_C : rn_ft 0 ty_C := ⟨_, _, _, rfl, tk_C, nm_C⟩
theorem ft_I : rn_ft 1 ty_I := ⟨_, _, _, rfl, tk_I, nm_I⟩
theorem ft_F : rn_ft 2 ty_F := ⟨_, _, _, rfl, tk_F, nm_F⟩
theorem ft_Y : rn_ft 3 ty_Y := ⟨_, _, _, rfl, tk_Y, nm_Y⟩
theorem ft_P : rn_ft 4 ty_P := ⟨_, _, _, rfl, tk_P, nm_P⟩
theorem ft_T : rn_ft 5 ty_T := ⟨_, _, _, rfl, tk_T, nm_T⟩
theorem ft_N : rn_ft 6 ty_N := ⟨_, _, _, rfl, tk_N, nm_N⟩
theorem ft_S : rn_ft 7 ty_S := ⟨_, _, _, rfl, tk_S, nm_S⟩
theorem ft_R : rn_ft 8 ty_R := ⟨_, _, _, rfl, tk_R, nm_R⟩
theorem ft_M : rn_ft 9 ty_M := ⟨_, _, _, rfl, tk_M, nm_M⟩
theorem f_I_20 : rn_fl "ColourCharts$Picture" 20 1 0 := ⟨_, _, _, rfl, by decide, rfl, in_I, Or.inl (ww 64 (by decide +kernel) (by decide +kernel))⟩
theorem fo_I_20 : rn_fo "ColourCharts$Picture" 20 1 0 := ⟨_, _, rfl, by decide, rfl, in_I, ww 64 (by decide +kernel) (by decide +kernel)⟩
theorem f_F_9 : rn_fl "ColourCharts$Frame" 9 1 0 := ⟨_, _, _, rfl, by decide, rfl, in_I, Or.inl (ww 65 (by decide +kernel) (by decide +kernel))⟩
theorem f_C_279 : rn_fl "ColourCharts" 279 1 0 := ⟨_, _, _, rfl, by decide, rfl, in_I, Or.inl (ww 66 (by decide +kernel) (by decide +kernel))⟩
theorem f_I_24 : rn_fl "ColourCharts$Picture" 24 1 1 := ⟨_, _, _, rfl, by decide, rfl, in_I, Or.inl (ww 67 (by decide +kernel) (by decide +kernel))⟩
theorem fo_I_24 : rn_fo "ColourCharts$Picture" 24 1 1 := ⟨_, _, rfl, by decide, rfl, in_I, ww 67 (by decide +kernel) (by decide +kernel)⟩
theorem f_F_20 : rn_fl "ColourCharts$Frame" 20 1 1 := ⟨_, _, _, rfl, by decide, rfl, in_I, Or.inl (ww 68 (by decide +kernel) (by decide +kernel))⟩
theorem f_C_282 : rn_fl "ColourCharts" 282 1 1 := ⟨_, _, _, rfl, by decide, rfl, in_I, Or.inl (ww 69 (by decide +kernel) (by decide +kernel))⟩
theorem f_I_27 : rn_fl "ColourCharts$Picture" 27 1 2 := ⟨_, _, _, rfl, by decide, rfl, in_I, Or.inl (ww 70 (by decide +kernel) (by decide +kernel))⟩
theorem fo_I_27 : rn_fo "ColourCharts$Picture" 27 1 2 := ⟨_, _, rfl, by decide, rfl, in_I, ww 70 (by decide +kernel) (by decide +kernel)⟩
theorem f_I_31 : rn_fl "ColourCharts$Picture" 31 1 3 := ⟨_, _, _, rfl, by decide, rfl, in_I, Or.inl (ww 71 (by decide +kernel) (by decide +kernel))⟩
theorem fo_I_31 : rn_fo "ColourCharts$Picture" 31 1 3 := ⟨_, _, rfl, by decide, rfl, in_I, ww 71 (by decide +kernel) (by decide +kernel)⟩
theorem f_F_44 : rn_fl "ColourCharts$Frame" 44 2 0 := ⟨_, _, _, rfl, by decide, rfl, in_F, Or.inl (ww 88 (by decide +kernel) (by decide +kernel))⟩
theorem fo_F_44 : rn_fo "ColourCharts$Frame" 44 2 0 := ⟨_, _, rfl, by decide, rfl, in_F, ww 88 (by decide +kernel) (by decide +kernel)⟩
theorem f_C_112 : rn_fl "ColourCharts" 112 2 0 := ⟨_, _, _, rfl, by decide, rfl, in_F, Or.inl (ww 89 (by decide +kernel) (by decide +kernel))⟩
theorem f_F_15 : rn_fl "ColourCharts$Frame" 15 2 1 := ⟨_, _, _, rfl, by decide, rfl, in_F, Or.inl (ww 90 (by decide +kernel) (by decide +kernel))⟩
theorem fo_F_15 : rn_fo "ColourCharts$Frame" 15 2 1 := ⟨_, _, rfl, by decide, rfl, in_F, ww 90 (by decide +kernel) (by decide +kernel)⟩
theorem f_P_24 : rn_fl "ColourCharts$Patch" 24 2 1 := ⟨_, _, _, rfl, by decide, rfl, in_F, Or.inl (ww 91 (by decide +kernel) (by decide +kernel))⟩
theorem f_F_23 : rn_fl "ColourCharts$Frame" 23 2 2 := ⟨_, _, _, rfl, by decide, rfl, in_F, Or.inl (ww 92 (by decide +kernel) (by decide +kernel))⟩
theorem fo_F_23 : rn_fo "ColourCharts$Frame" 23 2 2 := ⟨_, _, rfl, by decide, rfl, in_F, ww 92 (by decide +kernel) (by decide +kernel)⟩
theorem f_P_30 : rn_fl "ColourCharts$Patch" 30 2 2 := ⟨_, _, _, rfl, by decide, rfl, in_F, Or.inl (ww 93 (by decide +kernel) (by decide +kernel))⟩
theorem f_P_18 : rn_fl "ColourCharts$Patch" 18 2 3 := ⟨_, _, _, rfl, by decide, rfl, in_F, Or.inl (ww 94 (by decide +kernel) (by decide +kernel))⟩
theorem f_F_26 : rn_fl "ColourCharts$Frame" 26 2 3 := ⟨_, _, _, rfl, by decide, rfl, in_F, Or.inl (ww 95 (by decide +kernel) (by decide +kernel))⟩
theorem fo_F_26 : rn_fo "ColourCharts$Frame" 26 2 3 := ⟨_, _, rfl, by decide, rfl, in_F, ww 95 (by decide +kernel) (by decide +kernel)⟩
theorem f_F_29 : rn_fl "ColourCharts$Frame" 29 2 4 := ⟨_, _, _, rfl, by decide, rfl, in_F, Or.inl (ww 96 (by decide +kernel) (by decide +kernel))⟩
theorem fo_F_29 : rn_fo "ColourCharts$Frame" 29 2 4 := ⟨_, _, rfl, by decide, rfl, in_F, ww 96 (by decide +kernel) (by decide +kernel)⟩
theorem f_P_27 : rn_fl "ColourCharts$Patch" 27 2 4 := ⟨_, _, _, rfl, by decide, rfl, in_F, Or.inl (ww 97 (by decide +kernel) (by decide +kernel))⟩
theorem f_Y_7 : rn_fl "ColourCharts$Layout" 7 3 0 := ⟨_, _, _, rfl, by decide, rfl, in_Y, Or.inl (ww 115 (by decide +kernel) (by decide +kernel))⟩
theorem fo_Y_7 : rn_fo "ColourCharts$Layout" 7 3 0 := ⟨_, _, rfl, by decide, rfl, in_Y, ww 115 (by decide +kernel) (by decide +kernel)⟩
theorem f_P_33 : rn_fl "ColourCharts$Patch" 33 3 0 := ⟨_, _, _, rfl, by decide, rfl, in_Y, Or.inl (ww 116 (by decide +kernel) (by decide +kernel))⟩
theorem f_C_132 : rn_fl "ColourCharts" 132 3 0 := ⟨_, _, _, rfl, by decide, rfl, in_Y, Or.inl (ww 117 (by decide +kernel) (by decide +kernel))⟩
theorem f_Y_13 : rn_fl "ColourCharts$Layout" 13 3 1 := ⟨_, _, _, rfl, by decide, rfl, in_Y, Or.inl (ww 118 (by decide +kernel) (by decide +kernel))⟩
theorem fo_Y_13 : rn_fo "ColourCharts$Layout" 13 3 1 := ⟨_, _, rfl, by decide, rfl, in_Y, ww 118 (by decide +kernel) (by decide +kernel)⟩
theorem f_P_46 : rn_fl "ColourCharts$Patch" 46 3 1 := ⟨_, _, _, rfl, by decide, rfl, in_Y, Or.inl (ww 119 (by decide +kernel) (by decide +kernel))⟩
theorem f_C_136 : rn_fl "ColourCharts" 136 3 1 := ⟨_, _, _, rfl, by decide, rfl, in_Y, Or.inl (ww 120 (by decide +kernel) (by decide +kernel))⟩
theorem f_Y_16 : rn_fl "ColourCharts$Layout" 16 3 2 := ⟨_, _, _, rfl, by decide, rfl, in_Y, Or.inl (ww 121 (by decide +kernel) (by decide +kernel))⟩
theorem fo_Y_16 : rn_fo "ColourCharts$Layout" 16 3 2 := ⟨_, _, rfl, by decide, rfl, in_Y, ww 121 (by decide +kernel) (by decide +kernel)⟩
theorem f_C_141 : rn_fl "ColourCharts" 141 3 2 := ⟨_, _, _, rfl, by decide, rfl, in_Y, Or.inl (ww 122 (by decide +kernel) (by decide +kernel))⟩
theorem f_P_42 : rn_fl "ColourCharts$Patch" 42 4 0 := ⟨_, _, _, rfl, by decide, rfl, in_P, Or.inl (ww 136 (by decide +kernel) (by decide +kernel))⟩
theorem fo_P_42 : rn_fo "ColourCharts$Patch" 42 4 0 := ⟨_, _, rfl, by decide, rfl, in_P, ww 136 (by decide +kernel) (by decide +kernel)⟩
theorem f_P_49 : rn_fl "ColourCharts$Patch" 49 4 1 := ⟨_, _, _, rfl, by decide, rfl, in_P, Or.inl (ww 137 (by decide +kernel) (by decide +kernel))⟩
theorem fo_P_49 : rn_fo "ColourCharts$Patch" 49 4 1 := ⟨_, _, rfl, by decide, rfl, in_P, ww 137 (by decide +kernel) (by decide +kernel)⟩
theorem f_P_43 : rn_fl "ColourCharts$Patch" 43 4 2 := ⟨_, _, _, rfl, by decide, rfl, in_P, Or.inl (ww 138 (by decide +kernel) (by decide +kernel))⟩
theorem fo_P_43 : rn_fo "ColourCharts$Patch" 43 4 2 := ⟨_, _, rfl, by decide, rfl, in_P, ww 138 (by decide +kernel) (by decide +kernel)⟩
theorem f_P_50 : rn_fl "ColourCharts$Patch" 50 4 3 := ⟨_, _, _, rfl, by decide, rfl, in_P, Or.inl (ww 139 (by decide +kernel) (by decide +kernel))⟩
theorem fo_P_50 : rn_fo "ColourCharts$Patch" 50 4 3 := ⟨_, _, rfl, by decide, rfl, in_P, ww 139 (by decide +kernel) (by decide +kernel)⟩
theorem f_T_9 : rn_fl "ColourCharts$Targets" 9 5 0 := ⟨_, _, _, rfl, by decide, rfl, in_T, Or.inl (ww 155 (by decide +kernel) (by decide +kernel))⟩
theorem fo_T_9 : rn_fo "ColourCharts$Targets" 9 5 0 := ⟨_, _, rfl, by decide, rfl, in_T, ww 155 (by decide +kernel) (by decide +kernel)⟩
theorem f_C_189 : rn_fl "ColourCharts" 189 5 0 := ⟨_, _, _, rfl, by decide, rfl, in_T, Or.inl (ww 156 (by decide +kernel) (by decide +kernel))⟩
theorem f_T_15 : rn_fl "ColourCharts$Targets" 15 5 1 := ⟨_, _, _, rfl, by decide, rfl, in_T, Or.inl (ww 157 (by decide +kernel) (by decide +kernel))⟩
theorem fo_T_15 : rn_fo "ColourCharts$Targets" 15 5 1 := ⟨_, _, rfl, by decide, rfl, in_T, ww 157 (by decide +kernel) (by decide +kernel)⟩
theorem f_T_19 : rn_fl "ColourCharts$Targets" 19 5 2 := ⟨_, _, _, rfl, by decide, rfl, in_T, Or.inl (ww 158 (by decide +kernel) (by decide +kernel))⟩
theorem fo_T_19 : rn_fo "ColourCharts$Targets" 19 5 2 := ⟨_, _, rfl, by decide, rfl, in_T, ww 158 (by decide +kernel) (by decide +kernel)⟩
theorem f_C_195 : rn_fl "ColourCharts" 195 5 2 := ⟨_, _, _, rfl, by decide, rfl, in_T, Or.inl (ww 159 (by decide +kernel) (by decide +kernel))⟩
theorem f_C_208 : rn_fl "ColourCharts" 208 6 0 := ⟨_, _, _, rfl, by decide, rfl, in_N, Or.inl (ww 174 (by decide +kernel) (by decide +kernel))⟩
theorem f_N_9 : rn_fl "ColourCharts$Lines" 9 6 1 := ⟨_, _, _, rfl, by decide, rfl, in_N, Or.inl (ww 175 (by decide +kernel) (by decide +kernel))⟩
theorem fo_N_9 : rn_fo "ColourCharts$Lines" 9 6 1 := ⟨_, _, rfl, by decide, rfl, in_N, ww 175 (by decide +kernel) (by decide +kernel)⟩
theorem f_N_15 : rn_fl "ColourCharts$Lines" 15 6 2 := ⟨_, _, _, rfl, by decide, rfl, in_N, Or.inl (ww 176 (by decide +kernel) (by decide +kernel))⟩
theorem fo_N_15 : rn_fo "ColourCharts$Lines" 15 6 2 := ⟨_, _, rfl, by decide, rfl, in_N, ww 176 (by decide +kernel) (by decide +kernel)⟩
theorem f_N_18 : rn_fl "ColourCharts$Lines" 18 6 3 := ⟨_, _, _, rfl, by decide, rfl, in_N, Or.inl (ww 177 (by decide +kernel) (by decide +kernel))⟩
theorem fo_N_18 : rn_fo "ColourCharts$Lines" 18 6 3 := ⟨_, _, rfl, by decide, rfl, in_N, ww 177 (by decide +kernel) (by decide +kernel)⟩
theorem f_S_7 : rn_fl "ColourCharts$Sums" 7 7 0 := ⟨_, _, _, rfl, by decide, rfl, in_S, Or.inl (ww 194 (by decide +kernel) (by decide +kernel))⟩
theorem fo_S_7 : rn_fo "ColourCharts$Sums" 7 7 0 := ⟨_, _, rfl, by decide, rfl, in_S, ww 194 (by decide +kernel) (by decide +kernel)⟩
theorem f_N_31 : rn_fl "ColourCharts$Lines" 31 7 0 := ⟨_, _, _, rfl, by decide, rfl, in_S, Or.inl (ww 195 (by decide +kernel) (by decide +kernel))⟩
theorem f_C_262 : rn_fl "ColourCharts" 262 7 0 := ⟨_, _, _, rfl, by decide, rfl, in_S, Or.inl (ww 196 (by decide +kernel) (by decide +kernel))⟩
theorem f_S_13 : rn_fl "ColourCharts$Sums" 13 7 1 := ⟨_, _, _, rfl, by decide, rfl, in_S, Or.inl (ww 197 (by decide +kernel) (by decide +kernel))⟩
theorem fo_S_13 : rn_fo "ColourCharts$Sums" 13 7 1 := ⟨_, _, rfl, by decide, rfl, in_S, ww 197 (by decide +kernel) (by decide +kernel)⟩
theorem f_N_45 : rn_fl "ColourCharts$Lines" 45 7 1 := ⟨_, _, _, rfl, by decide, rfl, in_S, Or.inl (ww 198 (by decide +kernel) (by decide +kernel))⟩
theorem f_S_17 : rn_fl "ColourCharts$Sums" 17 7 2 := ⟨_, _, _, rfl, by decide, rfl, in_S, Or.inl (ww 199 (by decide +kernel) (by decide +kernel))⟩
theorem fo_S_17 : rn_fo "ColourCharts$Sums" 17 7 2 := ⟨_, _, rfl, by decide, rfl, in_S, ww 199 (by decide +kernel) (by decide +kernel)⟩
theorem f_N_27 : rn_fl "ColourCharts$Lines" 27 7 2 := ⟨_, _, _, rfl, by decide, rfl, in_S, Or.inl (ww 200 (by decide +kernel) (by decide +kernel))⟩
theorem f_S_20 : rn_fl "ColourCharts$Sums" 20 7 3 := ⟨_, _, _, rfl, by decide, rfl, in_S, Or.inl (ww 201 (by decide +kernel) (by decide +kernel))⟩
theorem fo_S_20 : rn_fo "ColourCharts$Sums" 20 7 3 := ⟨_, _, rfl, by decide, rfl, in_S, ww 201 (by decide +kernel) (by decide +kernel)⟩
theorem f_N_42 : rn_fl "ColourCharts$Lines" 42 7 3 := ⟨_, _, _, rfl, by decide, rfl, in_S, Or.inl (ww 202 (by decide +kernel) (by decide +kernel))⟩
theorem f_S_23 : rn_fl "ColourCharts$Sums" 23 7 4 := ⟨_, _, _, rfl, by decide, rfl, in_S, Or.inl (ww 203 (by decide +kernel) (by decide +kernel))⟩
theorem fo_S_23 : rn_fo "ColourCharts$Sums" 23 7 4 := ⟨_, _, rfl, by decide, rfl, in_S, ww 203 (by decide +kernel) (by decide +kernel)⟩
theorem f_N_48 : rn_fl "ColourCharts$Lines" 48 7 4 := ⟨_, _, _, rfl, by decide, rfl, in_S, Or.inl (ww 204 (by decide +kernel) (by decide +kernel))⟩
theorem f_R_29 : rn_fl "ColourCharts$Rules" 29 8 0 := ⟨_, _, _, rfl, by decide, rfl, in_R, Or.inl (ww 222 (by decide +kernel) (by decide +kernel))⟩
theorem fo_R_29 : rn_fo "ColourCharts$Rules" 29 8 0 := ⟨_, _, rfl, by decide, rfl, in_R, ww 222 (by decide +kernel) (by decide +kernel)⟩
theorem f_C_285 : rn_fl "ColourCharts" 285 8 0 := ⟨_, _, _, rfl, by decide, rfl, in_R, Or.inl (ww 223 (by decide +kernel) (by decide +kernel))⟩
theorem f_R_25 : rn_fl "ColourCharts$Rules" 25 8 1 := ⟨_, _, _, rfl, by decide, rfl, in_R, Or.inl (ww 224 (by decide +kernel) (by decide +kernel))⟩
theorem fo_R_25 : rn_fo "ColourCharts$Rules" 25 8 1 := ⟨_, _, rfl, by decide, rfl, in_R, ww 224 (by decide +kernel) (by decide +kernel)⟩
theorem f_C_288 : rn_fl "ColourCharts" 288 8 1 := ⟨_, _, _, rfl, by decide, rfl, in_R, Or.inl (ww 225 (by decide +kernel) (by decide +kernel))⟩
theorem f_R_11 : rn_fl "ColourCharts$Rules" 11 8 2 := ⟨_, _, _, rfl, by decide, rfl, in_R, Or.inl (ww 226 (by decide +kernel) (by decide +kernel))⟩
theorem fo_R_11 : rn_fo "ColourCharts$Rules" 11 8 2 := ⟨_, _, rfl, by decide, rfl, in_R, ww 226 (by decide +kernel) (by decide +kernel)⟩
theorem f_R_15 : rn_fl "ColourCharts$Rules" 15 8 3 := ⟨_, _, _, rfl, by decide, rfl, in_R, Or.inl (ww 227 (by decide +kernel) (by decide +kernel))⟩
theorem fo_R_15 : rn_fo "ColourCharts$Rules" 15 8 3 := ⟨_, _, rfl, by decide, rfl, in_R, ww 227 (by decide +kernel) (by decide +kernel)⟩
theorem f_R_18 : rn_fl "ColourCharts$Rules" 18 8 4 := ⟨_, _, _, rfl, by decide, rfl, in_R, Or.inl (ww 228 (by decide +kernel) (by decide +kernel))⟩
theorem fo_R_18 : rn_fo "ColourCharts$Rules" 18 8 4 := ⟨_, _, rfl, by decide, rfl, in_R, ww 228 (by decide +kernel) (by decide +kernel)⟩
theorem f_R_21 : rn_fl "ColourCharts$Rules" 21 8 5 := ⟨_, _, _, rfl, by decide, rfl, in_R, Or.inl (ww 229 (by decide +kernel) (by decide +kernel))⟩
theorem fo_R_21 : rn_fo "ColourCharts$Rules" 21 8 5 := ⟨_, _, rfl, by decide, rfl, in_R, ww 229 (by decide +kernel) (by decide +kernel)⟩
theorem f_C_12 : rn_fl "ColourCharts" 12 0 0 := ⟨_, _, _, rfl, by decide, rfl, in_C, Or.inl (ww 244 (by decide +kernel) (by decide +kernel))⟩
theorem fo_C_12 : rn_fo "ColourCharts" 12 0 0 := ⟨_, _, rfl, by decide, rfl, in_C, ww 244 (by decide +kernel) (by decide +kernel)⟩
theorem f_C_21 : rn_fl "ColourCharts" 21 0 1 := ⟨_, _, _, rfl, by decide, rfl, in_C, Or.inl (ww 245 (by decide +kernel) (by decide +kernel))⟩
theorem fo_C_21 : rn_fo "ColourCharts" 21 0 1 := ⟨_, _, rfl, by decide, rfl, in_C, ww 245 (by decide +kernel) (by decide +kernel)⟩
theorem f_C_28 : rn_fl "ColourCharts" 28 0 2 := ⟨_, _, _, rfl, by decide, rfl, in_C, Or.inl (ww 246 (by decide +kernel) (by decide +kernel))⟩
theorem fo_C_28 : rn_fo "ColourCharts" 28 0 2 := ⟨_, _, rfl, by decide, rfl, in_C, ww 246 (by decide +kernel) (by decide +kernel)⟩
theorem f_C_35 : rn_fl "ColourCharts" 35 0 3 := ⟨_, _, _, rfl, by decide, rfl, in_C, Or.inl (ww 247 (by decide +kernel) (by decide +kernel))⟩
theorem fo_C_35 : rn_fo "ColourCharts" 35 0 3 := ⟨_, _, rfl, by decide, rfl, in_C, ww 247 (by decide +kernel) (by decide +kernel)⟩
theorem f_C_42 : rn_fl "ColourCharts" 42 0 4 := ⟨_, _, _, rfl, by decide, rfl, in_C, Or.inl (ww 248 (by decide +kernel) (by decide +kernel))⟩
theorem fo_C_42 : rn_fo "ColourCharts" 42 0 4 := ⟨_, _, rfl, by decide, rfl, in_C, ww 248 (by decide +kernel) (by decide +kernel)⟩
theorem f_C_49 : rn_fl "ColourCharts" 49 0 5 := ⟨_, _, _, rfl, by decide, rfl, in_C, Or.inl (ww 249 (by decide +kernel) (by decide +kernel))⟩
theorem fo_C_49 : rn_fo "ColourCharts" 49 0 5 := ⟨_, _, rfl, by decide, rfl, in_C, ww 249 (by decide +kernel) (by decide +kernel)⟩
theorem f_C_56 : rn_fl "ColourCharts" 56 0 6 := ⟨_, _, _, rfl, by decide, rfl, in_C, Or.inl (ww 250 (by decide +kernel) (by decide +kernel))⟩
theorem fo_C_56 : rn_fo "ColourCharts" 56 0 6 := ⟨_, _, rfl, by decide, rfl, in_C, ww 250 (by decide +kernel) (by decide +kernel)⟩
theorem f_C_63 : rn_fl "ColourCharts" 63 0 7 := ⟨_, _, _, rfl, by decide, rfl, in_C, Or.inl (ww 251 (by decide +kernel) (by decide +kernel))⟩
theorem fo_C_63 : rn_fo "ColourCharts" 63 0 7 := ⟨_, _, rfl, by decide, rfl, in_C, ww 251 (by decide +kernel) (by decide +kernel)⟩
theorem f_C_67 : rn_fl "ColourCharts" 67 0 8 := ⟨_, _, _, rfl, by decide, rfl, in_C, Or.inl (ww 252 (by decide +kernel) (by decide +kernel))⟩
theorem fo_C_67 : rn_fo "ColourCharts" 67 0 8 := ⟨_, _, rfl, by decide, rfl, in_C, ww 252 (by decide +kernel) (by decide +kernel)⟩
-- static field: (Jvm.Cond.fieldLink "ColourCharts" (311 : Nat) "ColourCharts" "PART_WEIGHTS" "[I")
theorem f_M_67 : rn_fl "ColourChartsModel" 67 9 0 := ⟨_, _, _, rfl, by decide, rfl, in_M, Or.inl (ww 775 (by decide +kernel) (by decide +kernel))⟩
theorem fo_M_67 : rn_fo "ColourChartsModel" 67 9 0 := ⟨_, _, rfl, by decide, rfl, in_M, ww 775 (by decide +kernel) (by decide +kernel)⟩
theorem f_M_61 : rn_fl "ColourChartsModel" 61 9 1 := ⟨_, _, _, rfl, by decide, rfl, in_M, Or.inl (ww 776 (by decide +kernel) (by decide +kernel))⟩
theorem fo_M_61 : rn_fo "ColourChartsModel" 61 9 1 := ⟨_, _, rfl, by decide, rfl, in_M, ww 776 (by decide +kernel) (by decide +kernel)⟩
theorem f_M_64 : rn_fl "ColourChartsModel" 64 9 2 := ⟨_, _, _, rfl, by decide, rfl, in_M, Or.inl (ww 777 (by decide +kernel) (by decide +kernel))⟩
theorem fo_M_64 : rn_fo "ColourChartsModel" 64 9 2 := ⟨_, _, rfl, by decide, rfl, in_M, ww 777 (by decide +kernel) (by decide +kernel)⟩
theorem f_M_7 : rn_fl "ColourChartsModel" 7 9 3 := ⟨_, _, _, rfl, by decide, rfl, in_M, Or.inl (ww 778 (by decide +kernel) (by decide +kernel))⟩
theorem fo_M_7 : rn_fo "ColourChartsModel" 7 9 3 := ⟨_, _, rfl, by decide, rfl, in_M, ww 778 (by decide +kernel) (by decide +kernel)⟩
theorem f_M_13 : rn_fl "ColourChartsModel" 13 9 4 := ⟨_, _, _, rfl, by decide, rfl, in_M, Or.inl (ww 779 (by decide +kernel) (by decide +kernel))⟩
theorem fo_M_13 : rn_fo "ColourChartsModel" 13 9 4 := ⟨_, _, rfl, by decide, rfl, in_M, ww 779 (by decide +kernel) (by decide +kernel)⟩
theorem f_M_101 : rn_fl "ColourChartsModel" 101 9 5 := ⟨_, _, _, rfl, by decide, rfl, in_M, Or.inl (ww 780 (by decide +kernel) (by decide +kernel))⟩
theorem fo_M_101 : rn_fo "ColourChartsModel" 101 9 5 := ⟨_, _, rfl, by decide, rfl, in_M, ww 780 (by decide +kernel) (by decide +kernel)⟩
theorem f_M_86 : rn_fl "ColourChartsModel" 86 9 6 := ⟨_, _, _, rfl, by decide, rfl, in_M, Or.inl (ww 781 (by decide +kernel) (by decide +kernel))⟩
theorem fo_M_86 : rn_fo "ColourChartsModel" 86 9 6 := ⟨_, _, rfl, by decide, rfl, in_M, ww 781 (by decide +kernel) (by decide +kernel)⟩
theorem f_M_89 : rn_fl "ColourChartsModel" 89 9 7 := ⟨_, _, _, rfl, by decide, rfl, in_M, Or.inl (ww 782 (by decide +kernel) (by decide +kernel))⟩
theorem fo_M_89 : rn_fo "ColourChartsModel" 89 9 7 := ⟨_, _, rfl, by decide, rfl, in_M, ww 782 (by decide +kernel) (by decide +kernel)⟩
theorem f_M_92 : rn_fl "ColourChartsModel" 92 9 8 := ⟨_, _, _, rfl, by decide, rfl, in_M, Or.inl (ww 783 (by decide +kernel) (by decide +kernel))⟩
theorem fo_M_92 : rn_fo "ColourChartsModel" 92 9 8 := ⟨_, _, rfl, by decide, rfl, in_M, ww 783 (by decide +kernel) (by decide +kernel)⟩
theorem f_M_95 : rn_fl "ColourChartsModel" 95 9 9 := ⟨_, _, _, rfl, by decide, rfl, in_M, Or.inl (ww 784 (by decide +kernel) (by decide +kernel))⟩
theorem fo_M_95 : rn_fo "ColourChartsModel" 95 9 9 := ⟨_, _, rfl, by decide, rfl, in_M, ww 784 (by decide +kernel) (by decide +kernel)⟩
theorem f_M_16 : rn_fl "ColourChartsModel" 16 9 10 := ⟨_, _, _, rfl, by decide, rfl, in_M, Or.inl (ww 785 (by decide +kernel) (by decide +kernel))⟩
theorem fo_M_16 : rn_fo "ColourChartsModel" 16 9 10 := ⟨_, _, rfl, by decide, rfl, in_M, ww 785 (by decide +kernel) (by decide +kernel)⟩
theorem f_M_20 : rn_fl "ColourChartsModel" 20 9 11 := ⟨_, _, _, rfl, by decide, rfl, in_M, Or.inl (ww 786 (by decide +kernel) (by decide +kernel))⟩
theorem fo_M_20 : rn_fo "ColourChartsModel" 20 9 11 := ⟨_, _, rfl, by decide, rfl, in_M, ww 786 (by decide +kernel) (by decide +kernel)⟩
theorem f_M_105 : rn_fl "ColourChartsModel" 105 9 12 := ⟨_, _, _, rfl, by decide, rfl, in_M, Or.inl (ww 787 (by decide +kernel) (by decide +kernel))⟩
theorem fo_M_105 : rn_fo "ColourChartsModel" 105 9 12 := ⟨_, _, rfl, by decide, rfl, in_M, ww 787 (by decide +kernel) (by decide +kernel)⟩
theorem f_M_23 : rn_fl "ColourChartsModel" 23 9 13 := ⟨_, _, _, rfl, by decide, rfl, in_M, Or.inl (ww 788 (by decide +kernel) (by decide +kernel))⟩
theorem fo_M_23 : rn_fo "ColourChartsModel" 23 9 13 := ⟨_, _, rfl, by decide, rfl, in_M, ww 788 (by decide +kernel) (by decide +kernel)⟩
theorem f_M_27 : rn_fl "ColourChartsModel" 27 9 14 := ⟨_, _, _, rfl, by decide, rfl, in_M, Or.inl (ww 789 (by decide +kernel) (by decide +kernel))⟩
theorem fo_M_27 : rn_fo "ColourChartsModel" 27 9 14 := ⟨_, _, rfl, by decide, rfl, in_M, ww 789 (by decide +kernel) (by decide +kernel)⟩
theorem f_M_30 : rn_fl "ColourChartsModel" 30 9 15 := ⟨_, _, _, rfl, by decide, rfl, in_M, Or.inl (ww 790 (by decide +kernel) (by decide +kernel))⟩
theorem fo_M_30 : rn_fo "ColourChartsModel" 30 9 15 := ⟨_, _, rfl, by decide, rfl, in_M, ww 790 (by decide +kernel) (by decide +kernel)⟩
theorem f_M_149 : rn_fl "ColourChartsModel" 149 9 16 := ⟨_, _, _, rfl, by decide, rfl, in_M, Or.inl (ww 791 (by decide +kernel) (by decide +kernel))⟩
theorem fo_M_149 : rn_fo "ColourChartsModel" 149 9 16 := ⟨_, _, rfl, by decide, rfl, in_M, ww 791 (by decide +kernel) (by decide +kernel)⟩
theorem f_M_33 : rn_fl "ColourChartsModel" 33 9 17 := ⟨_, _, _, rfl, by decide, rfl, in_M, Or.inl (ww 792 (by decide +kernel) (by decide +kernel))⟩
theorem fo_M_33 : rn_fo "ColourChartsModel" 33 9 17 := ⟨_, _, rfl, by decide, rfl, in_M, ww 792 (by decide +kernel) (by decide +kernel)⟩
theorem f_M_37 : rn_fl "ColourChartsModel" 37 9 18 := ⟨_, _, _, rfl, by decide, rfl, in_M, Or.inl (ww 793 (by decide +kernel) (by decide +kernel))⟩
theorem fo_M_37 : rn_fo "ColourChartsModel" 37 9 18 := ⟨_, _, rfl, by decide, rfl, in_M, ww 793 (by decide +kernel) (by decide +kernel)⟩
theorem f_M_40 : rn_fl "ColourChartsModel" 40 9 19 := ⟨_, _, _, rfl, by decide, rfl, in_M, Or.inl (ww 794 (by decide +kernel) (by decide +kernel))⟩
theorem fo_M_40 : rn_fo "ColourChartsModel" 40 9 19 := ⟨_, _, rfl, by decide, rfl, in_M, ww 794 (by decide +kernel) (by decide +kernel)⟩
theorem f_M_163 : rn_fl "ColourChartsModel" 163 9 20 := ⟨_, _, _, rfl, by decide, rfl, in_M, Or.inl (ww 795 (by decide +kernel) (by decide +kernel))⟩
theorem fo_M_163 : rn_fo "ColourChartsModel" 163 9 20 := ⟨_, _, rfl, by decide, rfl, in_M, ww 795 (by decide +kernel) (by decide +kernel)⟩
theorem f_M_43 : rn_fl "ColourChartsModel" 43 9 21 := ⟨_, _, _, rfl, by decide, rfl, in_M, Or.inl (ww 796 (by decide +kernel) (by decide +kernel))⟩
theorem fo_M_43 : rn_fo "ColourChartsModel" 43 9 21 := ⟨_, _, rfl, by decide, rfl, in_M, ww 796 (by decide +kernel) (by decide +kernel)⟩
theorem f_M_166 : rn_fl "ColourChartsModel" 166 9 22 := ⟨_, _, _, rfl, by decide, rfl, in_M, Or.inl (ww 797 (by decide +kernel) (by decide +kernel))⟩
theorem fo_M_166 : rn_fo "ColourChartsModel" 166 9 22 := ⟨_, _, rfl, by decide, rfl, in_M, ww 797 (by decide +kernel) (by decide +kernel)⟩
theorem f_M_46 : rn_fl "ColourChartsModel" 46 9 23 := ⟨_, _, _, rfl, by decide, rfl, in_M, Or.inl (ww 798 (by decide +kernel) (by decide +kernel))⟩
theorem fo_M_46 : rn_fo "ColourChartsModel" 46 9 23 := ⟨_, _, rfl, by decide, rfl, in_M, ww 798 (by decide +kernel) (by decide +kernel)⟩
theorem f_M_49 : rn_fl "ColourChartsModel" 49 9 24 := ⟨_, _, _, rfl, by decide, rfl, in_M, Or.inl (ww 799 (by decide +kernel) (by decide +kernel))⟩
theorem fo_M_49 : rn_fo "ColourChartsModel" 49 9 24 := ⟨_, _, rfl, by decide, rfl, in_M, ww 799 (by decide +kernel) (by decide +kernel)⟩
theorem f_M_52 : rn_fl "ColourChartsModel" 52 9 25 := ⟨_, _, _, rfl, by decide, rfl, in_M, Or.inl (ww 800 (by decide +kernel) (by decide +kernel))⟩
theorem fo_M_52 : rn_fo "ColourChartsModel" 52 9 25 := ⟨_, _, rfl, by decide, rfl, in_M, ww 800 (by decide +kernel) (by decide +kernel)⟩
theorem f_M_173 : rn_fl "ColourChartsModel" 173 9 26 := ⟨_, _, _, rfl, by decide, rfl, in_M, Or.inl (ww 801 (by decide +kernel) (by decide +kernel))⟩
theorem fo_M_173 : rn_fo "ColourChartsModel" 173 9 26 := ⟨_, _, rfl, by decide, rfl, in_M, ww 801 (by decide +kernel) (by decide +kernel)⟩
theorem f_M_55 : rn_fl "ColourChartsModel" 55 9 27 := ⟨_, _, _, rfl, by decide, rfl, in_M, Or.inl (ww 802 (by decide +kernel) (by decide +kernel))⟩
theorem fo_M_55 : rn_fo "ColourChartsModel" 55 9 27 := ⟨_, _, rfl, by decide, rfl, in_M, ww 802 (by decide +kernel) (by decide +kernel)⟩
theorem f_M_58 : rn_fl "ColourChartsModel" 58 9 28 := ⟨_, _, _, rfl, by decide, rfl, in_M, Or.inl (ww 803 (by decide +kernel) (by decide +kernel))⟩
theorem fo_M_58 : rn_fo "ColourChartsModel" 58 9 28 := ⟨_, _, rfl, by decide, rfl, in_M, ww 803 (by decide +kernel) (by decide +kernel)⟩
theorem f_M_108 : rn_fl "ColourChartsModel" 108 9 29 := ⟨_, _, _, rfl, by decide, rfl, in_M, Or.inl (ww 804 (by decide +kernel) (by decide +kernel))⟩
theorem fo_M_108 : rn_fo "ColourChartsModel" 108 9 29 := ⟨_, _, rfl, by decide, rfl, in_M, ww 804 (by decide +kernel) (by decide +kernel)⟩
theorem f_M_111 : rn_fl "ColourChartsModel" 111 9 30 := ⟨_, _, _, rfl, by decide, rfl, in_M, Or.inl (ww 805 (by decide +kernel) (by decide +kernel))⟩
theorem fo_M_111 : rn_fo "ColourChartsModel" 111 9 30 := ⟨_, _, rfl, by decide, rfl, in_M, ww 805 (by decide +kernel) (by decide +kernel)⟩
theorem f_M_114 : rn_fl "ColourChartsModel" 114 9 31 := ⟨_, _, _, rfl, by decide, rfl, in_M, Or.inl (ww 806 (by decide +kernel) (by decide +kernel))⟩
theorem fo_M_114 : rn_fo "ColourChartsModel" 114 9 31 := ⟨_, _, rfl, by decide, rfl, in_M, ww 806 (by decide +kernel) (by decide +kernel)⟩
theorem fn_C_0 : rn_fin 0 0 true := ⟨_, _, _, rfl, rfl⟩
theorem fn_C_1 : rn_fin 0 1 true := ⟨_, _, _, rfl, rfl⟩
theorem fn_C_2 : rn_fin 0 2 true := ⟨_, _, _, rfl, rfl⟩
theorem fn_C_3 : rn_fin 0 3 true := ⟨_, _, _, rfl, rfl⟩
theorem fn_C_4 : rn_fin 0 4 true := ⟨_, _, _, rfl, rfl⟩
theorem fn_C_5 : rn_fin 0 5 true := ⟨_, _, _, rfl, rfl⟩
theorem fn_C_6 : rn_fin 0 6 true := ⟨_, _, _, rfl, rfl⟩
theorem fn_C_7 : rn_fin 0 7 true := ⟨_, _, _, rfl, rfl⟩
theorem fn_C_8 : rn_fin 0 8 true := ⟨_, _, _, rfl, rfl⟩
theorem fn_I_0 : rn_fin 1 0 true := ⟨_, _, _, rfl, rfl⟩
theorem fn_I_1 : rn_fin 1 1 true := ⟨_, _, _, rfl, rfl⟩
theorem fn_I_2 : rn_fin 1 2 true := ⟨_, _, _, rfl, rfl⟩
theorem fn_I_3 : rn_fin 1 3 true := ⟨_, _, _, rfl, rfl⟩
theorem fn_F_0 : rn_fin 2 0 false := ⟨_, _, _, rfl, rfl⟩
theorem fn_F_1 : rn_fin 2 1 false := ⟨_, _, _, rfl, rfl⟩
theorem fn_F_2 : rn_fin 2 2 false := ⟨_, _, _, rfl, rfl⟩
theorem fn_F_3 : rn_fin 2 3 false := ⟨_, _, _, rfl, rfl⟩
theorem fn_F_4 : rn_fin 2 4 false := ⟨_, _, _, rfl, rfl⟩
theorem fn_Y_0 : rn_fin 3 0 false := ⟨_, _, _, rfl, rfl⟩
theorem fn_Y_1 : rn_fin 3 1 false := ⟨_, _, _, rfl, rfl⟩
theorem fn_Y_2 : rn_fin 3 2 false := ⟨_, _, _, rfl, rfl⟩
theorem fn_P_0 : rn_fin 4 0 false := ⟨_, _, _, rfl, rfl⟩
theorem fn_P_1 : rn_fin 4 1 false := ⟨_, _, _, rfl, rfl⟩
theorem fn_P_2 : rn_fin 4 2 false := ⟨_, _, _, rfl, rfl⟩
theorem fn_P_3 : rn_fin 4 3 false := ⟨_, _, _, rfl, rfl⟩
theorem fn_T_0 : rn_fin 5 0 true := ⟨_, _, _, rfl, rfl⟩
theorem fn_T_1 : rn_fin 5 1 true := ⟨_, _, _, rfl, rfl⟩
theorem fn_T_2 : rn_fin 5 2 false := ⟨_, _, _, rfl, rfl⟩
theorem fn_N_0 : rn_fin 6 0 false := ⟨_, _, _, rfl, rfl⟩
theorem fn_N_1 : rn_fin 6 1 true := ⟨_, _, _, rfl, rfl⟩
theorem fn_N_2 : rn_fin 6 2 true := ⟨_, _, _, rfl, rfl⟩
theorem fn_N_3 : rn_fin 6 3 true := ⟨_, _, _, rfl, rfl⟩
theorem fn_S_0 : rn_fin 7 0 false := ⟨_, _, _, rfl, rfl⟩
theorem fn_S_1 : rn_fin 7 1 false := ⟨_, _, _, rfl, rfl⟩
theorem fn_S_2 : rn_fin 7 2 false := ⟨_, _, _, rfl, rfl⟩
theorem fn_S_3 : rn_fin 7 3 false := ⟨_, _, _, rfl, rfl⟩
theorem fn_S_4 : rn_fin 7 4 false := ⟨_, _, _, rfl, rfl⟩
theorem fn_R_0 : rn_fin 8 0 false := ⟨_, _, _, rfl, rfl⟩
theorem fn_R_1 : rn_fin 8 1 false := ⟨_, _, _, rfl, rfl⟩
theorem fn_R_2 : rn_fin 8 2 true := ⟨_, _, _, rfl, rfl⟩
theorem fn_R_3 : rn_fin 8 3 true := ⟨_, _, _, rfl, rfl⟩
theorem fn_R_4 : rn_fin 8 4 true := ⟨_, _, _, rfl, rfl⟩
theorem fn_R_5 : rn_fin 8 5 true := ⟨_, _, _, rfl, rfl⟩
theorem fn_M_0 : rn_fin 9 0 false := ⟨_, _, _, rfl, rfl⟩
theorem fn_M_1 : rn_fin 9 1 true := ⟨_, _, _, rfl, rfl⟩
theorem fn_M_2 : rn_fin 9 2 true := ⟨_, _, _, rfl, rfl⟩
theorem fn_M_3 : rn_fin 9 3 true := ⟨_, _, _, rfl, rfl⟩
theorem fn_M_4 : rn_fin 9 4 true := ⟨_, _, _, rfl, rfl⟩
theorem fn_M_5 : rn_fin 9 5 false := ⟨_, _, _, rfl, rfl⟩
theorem fn_M_6 : rn_fin 9 6 false := ⟨_, _, _, rfl, rfl⟩
theorem fn_M_7 : rn_fin 9 7 false := ⟨_, _, _, rfl, rfl⟩
theorem fn_M_8 : rn_fin 9 8 false := ⟨_, _, _, rfl, rfl⟩
theorem fn_M_9 : rn_fin 9 9 false := ⟨_, _, _, rfl, rfl⟩
theorem fn_M_10 : rn_fin 9 10 false := ⟨_, _, _, rfl, rfl⟩
theorem fn_M_11 : rn_fin 9 11 false := ⟨_, _, _, rfl, rfl⟩
theorem fn_M_12 : rn_fin 9 12 false := ⟨_, _, _, rfl, rfl⟩
theorem fn_M_13 : rn_fin 9 13 true := ⟨_, _, _, rfl, rfl⟩
theorem fn_M_14 : rn_fin 9 14 true := ⟨_, _, _, rfl, rfl⟩
theorem fn_M_15 : rn_fin 9 15 false := ⟨_, _, _, rfl, rfl⟩
theorem fn_M_16 : rn_fin 9 16 false := ⟨_, _, _, rfl, rfl⟩
theorem fn_M_17 : rn_fin 9 17 true := ⟨_, _, _, rfl, rfl⟩
theorem fn_M_18 : rn_fin 9 18 true := ⟨_, _, _, rfl, rfl⟩
theorem fn_M_19 : rn_fin 9 19 true := ⟨_, _, _, rfl, rfl⟩
theorem fn_M_20 : rn_fin 9 20 false := ⟨_, _, _, rfl, rfl⟩
theorem fn_M_21 : rn_fin 9 21 true := ⟨_, _, _, rfl, rfl⟩
theorem fn_M_22 : rn_fin 9 22 false := ⟨_, _, _, rfl, rfl⟩
theorem fn_M_23 : rn_fin 9 23 true := ⟨_, _, _, rfl, rfl⟩
theorem fn_M_24 : rn_fin 9 24 true := ⟨_, _, _, rfl, rfl⟩
theorem fn_M_25 : rn_fin 9 25 true := ⟨_, _, _, rfl, rfl⟩
theorem fn_M_26 : rn_fin 9 26 false := ⟨_, _, _, rfl, rfl⟩
theorem fn_M_27 : rn_fin 9 27 true := ⟨_, _, _, rfl, rfl⟩
theorem fn_M_28 : rn_fin 9 28 true := ⟨_, _, _, rfl, rfl⟩
theorem fn_M_29 : rn_fin 9 29 false := ⟨_, _, _, rfl, rfl⟩
theorem fn_M_30 : rn_fin 9 30 false := ⟨_, _, _, rfl, rfl⟩
theorem fn_M_31 : rn_fin 9 31 false := ⟨_, _, _, rfl, rfl⟩
abbrev b_C_init : ByteArray := prog_1_method_1_code
def y_C_init : MethodName := ⟨"ColourCharts", "<init>", "(II)V"⟩
abbrev r_C_init : Option FieldType := (Option.none : Option Jvm.ClassFile.FieldType)
abbrev wc_C_init : Cond := Cond.code y_C_init b_C_init 3 r_C_init
set_option maxRecDepth 100000 in
theorem mw_C_init : rn_mw y_C_init b_C_init 3 r_C_init [] wc_C_init := ⟨Or.inr ⟨rfl, rfl⟩, ww 48 (by rfl) (by rfl)⟩
abbrev b_I_init : ByteArray := prog_6_method_1_code
def y_I_init : MethodName := ⟨"ColourCharts$Picture", "<init>", "(II)V"⟩
abbrev r_I_init : Option FieldType := (Option.none : Option Jvm.ClassFile.FieldType)
abbrev wc_I_init : Cond := Cond.code y_I_init b_I_init 4 r_I_init
set_option maxRecDepth 100000 in
theorem mw_I_init : rn_mw y_I_init b_I_init 4 r_I_init [] wc_I_init := ⟨Or.inr ⟨rfl, rfl⟩, ww 56 (by rfl) (by rfl)⟩
abbrev b_J_mini : ByteArray := prog_16_method_69_code
def y_J_mini : MethodName := ⟨"java/lang/Math", "min", "(II)I"⟩
abbrev r_J_mini : Option FieldType := (Option.some Jvm.ClassFile.FieldType.int)
abbrev wc_J_mini : Cond := Cond.code y_J_mini b_J_mini 2 r_J_mini
set_option maxRecDepth 100000 in
theorem mw_J_mini : rn_mw y_J_mini b_J_mini 2 r_J_mini [] wc_J_mini := ⟨Or.inr ⟨rfl, rfl⟩, ww 60 (by rfl) (by rfl)⟩
abbrev b_J_maxi : ByteArray := prog_16_method_65_code
def y_J_maxi : MethodName := ⟨"java/lang/Math", "max", "(II)I"⟩
abbrev r_J_maxi : Option FieldType := (Option.some Jvm.ClassFile.FieldType.int)
abbrev wc_J_maxi : Cond := Cond.code y_J_maxi b_J_maxi 2 r_J_maxi
set_option maxRecDepth 100000 in
theorem mw_J_maxi : rn_mw y_J_maxi b_J_maxi 2 r_J_maxi [] wc_J_maxi := ⟨Or.inr ⟨rfl, rfl⟩, ww 63 (by rfl) (by rfl)⟩
abbrev b_F_init : ByteArray := prog_2_method_1_code
def y_F_init : MethodName := ⟨"ColourCharts$Frame", "<init>", "()V"⟩
abbrev r_F_init : Option FieldType := (Option.none : Option Jvm.ClassFile.FieldType)
abbrev wc_F_init : Cond := Cond.code y_F_init b_F_init 1 r_F_init
set_option maxRecDepth 100000 in
theorem mw_F_init : rn_mw y_F_init b_F_init 1 r_F_init [] wc_F_init := ⟨Or.inr ⟨rfl, rfl⟩, ww 86 (by rfl) (by rfl)⟩
abbrev b_Y_init : ByteArray := prog_3_method_1_code
def y_Y_init : MethodName := ⟨"ColourCharts$Layout", "<init>", "()V"⟩
abbrev r_Y_init : Option FieldType := (Option.none : Option Jvm.ClassFile.FieldType)
abbrev wc_Y_init : Cond := Cond.code y_Y_init b_Y_init 1 r_Y_init
set_option maxRecDepth 100000 in
theorem mw_Y_init : rn_mw y_Y_init b_Y_init 1 r_Y_init [] wc_Y_init := ⟨Or.inr ⟨rfl, rfl⟩, ww 113 (by rfl) (by rfl)⟩
abbrev b_P_init : ByteArray := prog_5_method_1_code
def y_P_init : MethodName := ⟨"ColourCharts$Patch", "<init>", "()V"⟩
abbrev r_P_init : Option FieldType := (Option.none : Option Jvm.ClassFile.FieldType)
abbrev wc_P_init : Cond := Cond.code y_P_init b_P_init 1 r_P_init
set_option maxRecDepth 100000 in
theorem mw_P_init : rn_mw y_P_init b_P_init 1 r_P_init [] wc_P_init := ⟨Or.inr ⟨rfl, rfl⟩, ww 134 (by rfl) (by rfl)⟩
abbrev b_T_init : ByteArray := prog_9_method_1_code
def y_T_init : MethodName := ⟨"ColourCharts$Targets", "<init>", "()V"⟩
abbrev r_T_init : Option FieldType := (Option.none : Option Jvm.ClassFile.FieldType)
abbrev wc_T_init : Cond := Cond.code y_T_init b_T_init 1 r_T_init
set_option maxRecDepth 100000 in
theorem mw_T_init : rn_mw y_T_init b_T_init 1 r_T_init [] wc_T_init := ⟨Or.inr ⟨rfl, rfl⟩, ww 153 (by rfl) (by rfl)⟩
abbrev b_N_init : ByteArray := prog_4_method_1_code
def y_N_init : MethodName := ⟨"ColourCharts$Lines", "<init>", "()V"⟩
abbrev r_N_init : Option FieldType := (Option.none : Option Jvm.ClassFile.FieldType)
abbrev wc_N_init : Cond := Cond.code y_N_init b_N_init 1 r_N_init
set_option maxRecDepth 100000 in
theorem mw_N_init : rn_mw y_N_init b_N_init 1 r_N_init [] wc_N_init := ⟨Or.inr ⟨rfl, rfl⟩, ww 172 (by rfl) (by rfl)⟩
abbrev b_S_init : ByteArray := prog_8_method_1_code
def y_S_init : MethodName := ⟨"ColourCharts$Sums", "<init>", "()V"⟩
abbrev r_S_init : Option FieldType := (Option.none : Option Jvm.ClassFile.FieldType)
abbrev wc_S_init : Cond := Cond.code y_S_init b_S_init 1 r_S_init
set_option maxRecDepth 100000 in
theorem mw_S_init : rn_mw y_S_init b_S_init 1 r_S_init [] wc_S_init := ⟨Or.inr ⟨rfl, rfl⟩, ww 192 (by rfl) (by rfl)⟩
abbrev b_R_init : ByteArray := prog_7_method_1_code
def y_R_init : MethodName := ⟨"ColourCharts$Rules", "<init>", "()V"⟩
abbrev r_R_init : Option FieldType := (Option.none : Option Jvm.ClassFile.FieldType)
abbrev wc_R_init : Cond := Cond.code y_R_init b_R_init 1 r_R_init
set_option maxRecDepth 100000 in
theorem mw_R_init : rn_mw y_R_init b_R_init 1 r_R_init [] wc_R_init := ⟨Or.inr ⟨rfl, rfl⟩, ww 220 (by rfl) (by rfl)⟩
abbrev b_C_find : ByteArray := prog_1_method_5_code
def y_C_find : MethodName := ⟨"ColourCharts", "find", "()Z"⟩
abbrev r_C_find : Option FieldType := (Option.some Jvm.ClassFile.FieldType.boolean)
abbrev wc_C_find : Cond := Cond.code y_C_find b_C_find 1 r_C_find
set_option maxRecDepth 100000 in
theorem mw_C_find : rn_mw y_C_find b_C_find 1 r_C_find [] wc_C_find := ⟨Or.inr ⟨rfl, rfl⟩, ww 275 (by rfl) (by rfl)⟩
abbrev b_F_lookIn : ByteArray := prog_2_method_2_code
def y_F_lookIn : MethodName := ⟨"ColourCharts$Frame", "lookIn", "(LColourCharts$Picture;)V"⟩
abbrev r_F_lookIn : Option FieldType := (Option.none : Option Jvm.ClassFile.FieldType)
abbrev wc_F_lookIn : Cond := Cond.code y_F_lookIn b_F_lookIn 4 r_F_lookIn
set_option maxRecDepth 100000 in
theorem mw_F_lookIn : rn_mw y_F_lookIn b_F_lookIn 4 r_F_lookIn [] wc_F_lookIn := ⟨Or.inr ⟨rfl, rfl⟩, ww 279 (by rfl) (by rfl)⟩
abbrev b_I_isDark : ByteArray := prog_6_method_6_code
def y_I_isDark : MethodName := ⟨"ColourCharts$Picture", "isDark", "(II)Z"⟩
abbrev r_I_isDark : Option FieldType := (Option.some Jvm.ClassFile.FieldType.boolean)
abbrev wc_I_isDark : Cond := Cond.code y_I_isDark b_I_isDark 5 r_I_isDark
set_option maxRecDepth 100000 in
theorem mw_I_isDark : rn_mw y_I_isDark b_I_isDark 5 r_I_isDark [] wc_I_isDark := ⟨Or.inr ⟨rfl, rfl⟩, ww 283 (by rfl) (by rfl)⟩
abbrev b_F_widenTo : ByteArray := prog_2_method_3_code
def y_F_widenTo : MethodName := ⟨"ColourCharts$Frame", "widenTo", "(II)V"⟩
abbrev r_F_widenTo : Option FieldType := (Option.none : Option Jvm.ClassFile.FieldType)
abbrev wc_F_widenTo : Cond := Cond.code y_F_widenTo b_F_widenTo 3 r_F_widenTo
set_option maxRecDepth 100000 in
theorem mw_F_widenTo : rn_mw y_F_widenTo b_F_widenTo 3 r_F_widenTo [] wc_F_widenTo := ⟨Or.inr ⟨rfl, rfl⟩, ww 287 (by rfl) (by rfl)⟩
abbrev b_F_borderIsDark : ByteArray := prog_2_method_4_code
def y_F_borderIsDark : MethodName := ⟨"ColourCharts$Frame", "borderIsDark", "(LColourCharts$Picture;)Z"⟩
abbrev r_F_borderIsDark : Option FieldType := (Option.some Jvm.ClassFile.FieldType.boolean)
abbrev wc_F_borderIsDark : Cond := Cond.code y_F_borderIsDark b_F_borderIsDark 3 r_F_borderIsDark
set_option maxRecDepth 100000 in
theorem mw_F_borderIsDark : rn_mw y_F_borderIsDark b_F_borderIsDark 3 r_F_borderIsDark [] wc_F_borderIsDark := ⟨Or.inr ⟨rfl, rfl⟩, ww 293 (by rfl) (by rfl)⟩
abbrev b_L_cell : ByteArray := method_2_code
def y_L_cell : MethodName := ⟨"ColourChartsLaw", "cell", "([II)I"⟩
abbrev r_L_cell : Option FieldType := (Option.some Jvm.ClassFile.FieldType.int)
abbrev wc_L_cell : Cond := Cond.code y_L_cell b_L_cell 2 r_L_cell
set_option maxRecDepth 100000 in
theorem mw_L_cell : rn_mw y_L_cell b_L_cell 2 r_L_cell [] wc_L_cell := ⟨Or.inr ⟨rfl, rfl⟩, ww 296 (by rfl) (by rfl)⟩
abbrev b_L_pixel : ByteArray := method_3_code
def y_L_pixel : MethodName := ⟨"ColourChartsLaw", "pixel", "(LColourCharts;IIII[J)I"⟩
abbrev r_L_pixel : Option FieldType := (Option.some Jvm.ClassFile.FieldType.int)
abbrev hh_L_pixel : List (Nat × Nat × Nat × Nat) := [((0 : Nat), (14 : Nat), (17 : Nat), (13 : Nat)), ((0 : Nat), (14 : Nat), (21 : Nat), (15 : Nat))]
abbrev wc_L_pixel : Cond := Cond.codeWith y_L_pixel b_L_pixel 7 r_L_pixel hh_L_pixel
set_option maxRecDepth 100000 in
theorem mw_L_pixel : rn_mw y_L_pixel b_L_pixel 7 r_L_pixel hh_L_pixel wc_L_pixel := ⟨Or.inl rfl, ww 299 (by rfl) (by rfl)⟩
abbrev b_C_pixel : ByteArray := prog_1_method_2_code
def y_C_pixel : MethodName := ⟨"ColourCharts", "pixel", "(IIII)I"⟩
abbrev r_C_pixel : Option FieldType := (Option.some Jvm.ClassFile.FieldType.int)
abbrev wc_C_pixel : Cond := Cond.code y_C_pixel b_C_pixel 5 r_C_pixel
set_option maxRecDepth 100000 in
theorem mw_C_pixel : rn_mw y_C_pixel b_C_pixel 5 r_C_pixel [] wc_C_pixel := ⟨Or.inr ⟨rfl, rfl⟩, ww 305 (by rfl) (by rfl)⟩
abbrev b_I_hasCell : ByteArray := prog_6_method_2_code
def y_I_hasCell : MethodName := ⟨"ColourCharts$Picture", "hasCell", "(II)Z"⟩
abbrev r_I_hasCell : Option FieldType := (Option.some Jvm.ClassFile.FieldType.boolean)
abbrev wc_I_hasCell : Cond := Cond.code y_I_hasCell b_I_hasCell 3 r_I_hasCell
set_option maxRecDepth 100000 in
theorem mw_I_hasCell : rn_mw y_I_hasCell b_I_hasCell 3 r_I_hasCell [] wc_I_hasCell := ⟨Or.inr ⟨rfl, rfl⟩, ww 309 (by rfl) (by rfl)⟩
abbrev b_C_isPart : ByteArray := prog_1_method_28_code
def y_C_isPart : MethodName := ⟨"ColourCharts", "isPart", "(I)Z"⟩
abbrev r_C_isPart : Option FieldType := (Option.some Jvm.ClassFile.FieldType.boolean)
abbrev wc_C_isPart : Cond := Cond.code y_C_isPart b_C_isPart 1 r_C_isPart
set_option maxRecDepth 100000 in
theorem mw_C_isPart : rn_mw y_C_isPart b_C_isPart 1 r_C_isPart [] wc_C_isPart := ⟨Or.inr ⟨rfl, rfl⟩, ww 312 (by rfl) (by rfl)⟩
abbrev b_C_isPartValue : ByteArray := prog_1_method_29_code
def y_C_isPartValue : MethodName := ⟨"ColourCharts", "isPartValue", "(I)Z"⟩
abbrev r_C_isPartValue : Option FieldType := (Option.some Jvm.ClassFile.FieldType.boolean)
abbrev wc_C_isPartValue : Cond := Cond.code y_C_isPartValue b_C_isPartValue 1 r_C_isPartValue
set_option maxRecDepth 100000 in
theorem mw_C_isPartValue : rn_mw y_C_isPartValue b_C_isPartValue 1 r_C_isPartValue [] wc_C_isPartValue := ⟨Or.inr ⟨rfl, rfl⟩, ww 383 (by rfl) (by rfl)⟩
abbrev b_I_exchangePart : ByteArray := prog_6_method_3_code
def y_I_exchangePart : MethodName := ⟨"ColourCharts$Picture", "exchangePart", "(IIII)I"⟩
abbrev r_I_exchangePart : Option FieldType := (Option.some Jvm.ClassFile.FieldType.int)
abbrev wc_I_exchangePart : Cond := Cond.code y_I_exchangePart b_I_exchangePart 7 r_I_exchangePart
set_option maxRecDepth 100000 in
theorem mw_I_exchangePart : rn_mw y_I_exchangePart b_I_exchangePart 7 r_I_exchangePart [] wc_I_exchangePart := ⟨Or.inr ⟨rfl, rfl⟩, ww 403 (by rfl) (by rfl)⟩
abbrev b_L_light : ByteArray := method_4_code
def y_L_light : MethodName := ⟨"ColourChartsLaw", "light", "(LColourCharts;III[J)I"⟩
abbrev r_L_light : Option FieldType := (Option.some Jvm.ClassFile.FieldType.int)
abbrev hh_L_light : List (Nat × Nat × Nat × Nat) := [((0 : Nat), (12 : Nat), (15 : Nat), (13 : Nat)), ((0 : Nat), (12 : Nat), (19 : Nat), (15 : Nat))]
abbrev wc_L_light : Cond := Cond.codeWith y_L_light b_L_light 6 r_L_light hh_L_light
set_option maxRecDepth 100000 in
theorem mw_L_light : rn_mw y_L_light b_L_light 6 r_L_light hh_L_light wc_L_light := ⟨Or.inl rfl, ww 406 (by rfl) (by rfl)⟩
abbrev b_C_light : ByteArray := prog_1_method_3_code
def y_C_light : MethodName := ⟨"ColourCharts", "light", "(III)I"⟩
abbrev r_C_light : Option FieldType := (Option.some Jvm.ClassFile.FieldType.int)
abbrev wc_C_light : Cond := Cond.code y_C_light b_C_light 4 r_C_light
set_option maxRecDepth 100000 in
theorem mw_C_light : rn_mw y_C_light b_C_light 4 r_C_light [] wc_C_light := ⟨Or.inr ⟨rfl, rfl⟩, ww 410 (by rfl) (by rfl)⟩
abbrev b_I_exchangeLight : ByteArray := prog_6_method_4_code
def y_I_exchangeLight : MethodName := ⟨"ColourCharts$Picture", "exchangeLight", "(III)I"⟩
abbrev r_I_exchangeLight : Option FieldType := (Option.some Jvm.ClassFile.FieldType.int)
abbrev wc_I_exchangeLight : Cond := Cond.code y_I_exchangeLight b_I_exchangeLight 6 r_I_exchangeLight
set_option maxRecDepth 100000 in
theorem mw_I_exchangeLight : rn_mw y_I_exchangeLight b_I_exchangeLight 6 r_I_exchangeLight [] wc_I_exchangeLight := ⟨Or.inr ⟨rfl, rfl⟩, ww 416 (by rfl) (by rfl)⟩
abbrev b_L_lit : ByteArray := method_5_code
def y_L_lit : MethodName := ⟨"ColourChartsLaw", "lit", "(LColourCharts;III[J)I"⟩
abbrev r_L_lit : Option FieldType := (Option.some Jvm.ClassFile.FieldType.int)
abbrev hh_L_lit : List (Nat × Nat × Nat × Nat) := [((0 : Nat), (12 : Nat), (15 : Nat), (13 : Nat))]
abbrev wc_L_lit : Cond := Cond.codeWith y_L_lit b_L_lit 6 r_L_lit hh_L_lit
set_option maxRecDepth 100000 in
theorem mw_L_lit : rn_mw y_L_lit b_L_lit 6 r_L_lit hh_L_lit wc_L_lit := ⟨Or.inl rfl, ww 419 (by rfl) (by rfl)⟩
abbrev b_C_lit : ByteArray := prog_1_method_4_code
def y_C_lit : MethodName := ⟨"ColourCharts", "lit", "(III)I"⟩
abbrev r_C_lit : Option FieldType := (Option.some Jvm.ClassFile.FieldType.int)
abbrev wc_C_lit : Cond := Cond.code y_C_lit b_C_lit 4 r_C_lit
set_option maxRecDepth 100000 in
theorem mw_C_lit : rn_mw y_C_lit b_C_lit 4 r_C_lit [] wc_C_lit := ⟨Or.inr ⟨rfl, rfl⟩, ww 423 (by rfl) (by rfl)⟩
abbrev b_I_litPart : ByteArray := prog_6_method_5_code
def y_I_litPart : MethodName := ⟨"ColourCharts$Picture", "litPart", "(III)I"⟩
abbrev r_I_litPart : Option FieldType := (Option.some Jvm.ClassFile.FieldType.int)
abbrev wc_I_litPart : Cond := Cond.code y_I_litPart b_I_litPart 7 r_I_litPart
set_option maxRecDepth 100000 in
theorem mw_I_litPart : rn_mw y_I_litPart b_I_litPart 7 r_I_litPart [] wc_I_litPart := ⟨Or.inr ⟨rfl, rfl⟩, ww 427 (by rfl) (by rfl)⟩
abbrev b_L_box : ByteArray := method_6_code
def y_L_box : MethodName := ⟨"ColourChartsLaw", "box", "(LColourCharts;I[J)I"⟩
abbrev r_L_box : Option FieldType := (Option.some Jvm.ClassFile.FieldType.int)
abbrev hh_L_box : List (Nat × Nat × Nat × Nat) := [((0 : Nat), (9 : Nat), (12 : Nat), (13 : Nat)), ((0 : Nat), (9 : Nat), (15 : Nat), (28 : Nat))]
abbrev wc_L_box : Cond := Cond.codeWith y_L_box b_L_box 4 r_L_box hh_L_box
set_option maxRecDepth 100000 in
theorem mw_L_box : rn_mw y_L_box b_L_box 4 r_L_box hh_L_box wc_L_box := ⟨Or.inl rfl, ww 430 (by rfl) (by rfl)⟩
abbrev b_C_box : ByteArray := prog_1_method_6_code
def y_C_box : MethodName := ⟨"ColourCharts", "box", "(I)I"⟩
abbrev r_C_box : Option FieldType := (Option.some Jvm.ClassFile.FieldType.int)
abbrev wc_C_box : Cond := Cond.code y_C_box b_C_box 2 r_C_box
set_option maxRecDepth 100000 in
theorem mw_C_box : rn_mw y_C_box b_C_box 2 r_C_box [] wc_C_box := ⟨Or.inr ⟨rfl, rfl⟩, ww 435 (by rfl) (by rfl)⟩
abbrev b_F_side : ByteArray := prog_2_method_5_code
def y_F_side : MethodName := ⟨"ColourCharts$Frame", "side", "(I)I"⟩
abbrev r_F_side : Option FieldType := (Option.some Jvm.ClassFile.FieldType.int)
abbrev wc_F_side : Cond := Cond.code y_F_side b_F_side 2 r_F_side
set_option maxRecDepth 100000 in
theorem mw_F_side : rn_mw y_F_side b_F_side 2 r_F_side [] wc_F_side := ⟨Or.inr ⟨rfl, rfl⟩, ww 456 (by rfl) (by rfl)⟩
abbrev b_L_grid : ByteArray := method_7_code
def y_L_grid : MethodName := ⟨"ColourChartsLaw", "grid", "(LColourCharts;II)I"⟩
abbrev r_L_grid : Option FieldType := (Option.some Jvm.ClassFile.FieldType.int)
abbrev hh_L_grid : List (Nat × Nat × Nat × Nat) := [((0 : Nat), (6 : Nat), (9 : Nat), (15 : Nat))]
abbrev wc_L_grid : Cond := Cond.codeWith y_L_grid b_L_grid 4 r_L_grid hh_L_grid
set_option maxRecDepth 100000 in
theorem mw_L_grid : rn_mw y_L_grid b_L_grid 4 r_L_grid hh_L_grid wc_L_grid := ⟨Or.inl rfl, ww 459 (by rfl) (by rfl)⟩
abbrev b_C_grid : ByteArray := prog_1_method_7_code
def y_C_grid : MethodName := ⟨"ColourCharts", "grid", "(II)V"⟩
abbrev r_C_grid : Option FieldType := (Option.none : Option Jvm.ClassFile.FieldType)
abbrev wc_C_grid : Cond := Cond.code y_C_grid b_C_grid 3 r_C_grid
set_option maxRecDepth 100000 in
theorem mw_C_grid : rn_mw y_C_grid b_C_grid 3 r_C_grid [] wc_C_grid := ⟨Or.inr ⟨rfl, rfl⟩, ww 463 (by rfl) (by rfl)⟩
abbrev b_C_isGridSide : ByteArray := prog_1_method_30_code
def y_C_isGridSide : MethodName := ⟨"ColourCharts", "isGridSide", "(I)Z"⟩
abbrev r_C_isGridSide : Option FieldType := (Option.some Jvm.ClassFile.FieldType.boolean)
abbrev wc_C_isGridSide : Cond := Cond.code y_C_isGridSide b_C_isGridSide 1 r_C_isGridSide
set_option maxRecDepth 100000 in
theorem mw_C_isGridSide : rn_mw y_C_isGridSide b_C_isGridSide 1 r_C_isGridSide [] wc_C_isGridSide := ⟨Or.inr ⟨rfl, rfl⟩, ww 466 (by rfl) (by rfl)⟩
abbrev b_L_turn : ByteArray := method_8_code
def y_L_turn : MethodName := ⟨"ColourChartsLaw", "turn", "(LColourCharts;I[J)I"⟩
abbrev r_L_turn : Option FieldType := (Option.some Jvm.ClassFile.FieldType.int)
abbrev hh_L_turn : List (Nat × Nat × Nat × Nat) := [((0 : Nat), (9 : Nat), (12 : Nat), (15 : Nat))]
abbrev wc_L_turn : Cond := Cond.codeWith y_L_turn b_L_turn 4 r_L_turn hh_L_turn
set_option maxRecDepth 100000 in
theorem mw_L_turn : rn_mw y_L_turn b_L_turn 4 r_L_turn hh_L_turn wc_L_turn := ⟨Or.inl rfl, ww 470 (by rfl) (by rfl)⟩
abbrev b_C_turn : ByteArray := prog_1_method_8_code
def y_C_turn : MethodName := ⟨"ColourCharts", "turn", "(I)I"⟩
abbrev r_C_turn : Option FieldType := (Option.some Jvm.ClassFile.FieldType.int)
abbrev wc_C_turn : Cond := Cond.code y_C_turn b_C_turn 3 r_C_turn
set_option maxRecDepth 100000 in
theorem mw_C_turn : rn_mw y_C_turn b_C_turn 3 r_C_turn [] wc_C_turn := ⟨Or.inr ⟨rfl, rfl⟩, ww 474 (by rfl) (by rfl)⟩
abbrev b_L_read : ByteArray := method_9_code
def y_L_read : MethodName := ⟨"ColourChartsLaw", "read", "(LColourCharts;II[J)I"⟩
abbrev r_L_read : Option FieldType := (Option.some Jvm.ClassFile.FieldType.int)
abbrev hh_L_read : List (Nat × Nat × Nat × Nat) := [((0 : Nat), (10 : Nat), (13 : Nat), (13 : Nat)), ((0 : Nat), (10 : Nat), (17 : Nat), (28 : Nat))]
abbrev wc_L_read : Cond := Cond.codeWith y_L_read b_L_read 5 r_L_read hh_L_read
set_option maxRecDepth 100000 in
theorem mw_L_read : rn_mw y_L_read b_L_read 5 r_L_read hh_L_read wc_L_read := ⟨Or.inl rfl, ww 478 (by rfl) (by rfl)⟩
abbrev b_C_read : ByteArray := prog_1_method_9_code
def y_C_read : MethodName := ⟨"ColourCharts", "read", "(II)I"⟩
abbrev r_C_read : Option FieldType := (Option.some Jvm.ClassFile.FieldType.int)
abbrev wc_C_read : Cond := Cond.code y_C_read b_C_read 3 r_C_read
set_option maxRecDepth 100000 in
theorem mw_C_read : rn_mw y_C_read b_C_read 3 r_C_read [] wc_C_read := ⟨Or.inr ⟨rfl, rfl⟩, ww 482 (by rfl) (by rfl)⟩
abbrev b_Y_hasPatch : ByteArray := prog_3_method_3_code
def y_Y_hasPatch : MethodName := ⟨"ColourCharts$Layout", "hasPatch", "(I)Z"⟩
abbrev r_Y_hasPatch : Option FieldType := (Option.some Jvm.ClassFile.FieldType.boolean)
abbrev wc_Y_hasPatch : Cond := Cond.code y_Y_hasPatch b_Y_hasPatch 2 r_Y_hasPatch
set_option maxRecDepth 100000 in
theorem mw_Y_hasPatch : rn_mw y_Y_hasPatch b_Y_hasPatch 2 r_Y_hasPatch [] wc_Y_hasPatch := ⟨Or.inr ⟨rfl, rfl⟩, ww 486 (by rfl) (by rfl)⟩
abbrev b_Y_patches : ByteArray := prog_3_method_2_code
def y_Y_patches : MethodName := ⟨"ColourCharts$Layout", "patches", "()I"⟩
abbrev r_Y_patches : Option FieldType := (Option.some Jvm.ClassFile.FieldType.int)
abbrev wc_Y_patches : Cond := Cond.code y_Y_patches b_Y_patches 1 r_Y_patches
set_option maxRecDepth 100000 in
theorem mw_Y_patches : rn_mw y_Y_patches b_Y_patches 1 r_Y_patches [] wc_Y_patches := ⟨Or.inr ⟨rfl, rfl⟩, ww 490 (by rfl) (by rfl)⟩
abbrev b_C_partOfPatch : ByteArray := prog_1_method_23_code
def y_C_partOfPatch : MethodName := ⟨"ColourCharts", "partOfPatch", "(II)I"⟩
abbrev r_C_partOfPatch : Option FieldType := (Option.some Jvm.ClassFile.FieldType.int)
abbrev wc_C_partOfPatch : Cond := Cond.code y_C_partOfPatch b_C_partOfPatch 3 r_C_partOfPatch
set_option maxRecDepth 100000 in
theorem mw_C_partOfPatch : rn_mw y_C_partOfPatch b_C_partOfPatch 3 r_C_partOfPatch [] wc_C_partOfPatch := ⟨Or.inr ⟨rfl, rfl⟩, ww 495 (by rfl) (by rfl)⟩
abbrev b_P_aim : ByteArray := prog_5_method_2_code
def y_P_aim : MethodName := ⟨"ColourCharts$Patch", "aim", "(LColourCharts$Frame;LColourCharts$Layout;I)V"⟩
abbrev r_P_aim : Option FieldType := (Option.none : Option Jvm.ClassFile.FieldType)
abbrev wc_P_aim : Cond := Cond.code y_P_aim b_P_aim 8 r_P_aim
set_option maxRecDepth 100000 in
theorem mw_P_aim : rn_mw y_P_aim b_P_aim 8 r_P_aim [] wc_P_aim := ⟨Or.inr ⟨rfl, rfl⟩, ww 499 (by rfl) (by rfl)⟩
abbrev b_Y_columnOf : ByteArray := prog_3_method_4_code
def y_Y_columnOf : MethodName := ⟨"ColourCharts$Layout", "columnOf", "(I)I"⟩
abbrev r_Y_columnOf : Option FieldType := (Option.some Jvm.ClassFile.FieldType.int)
abbrev wc_Y_columnOf : Cond := Cond.code y_Y_columnOf b_Y_columnOf 2 r_Y_columnOf
set_option maxRecDepth 100000 in
theorem mw_Y_columnOf : rn_mw y_Y_columnOf b_Y_columnOf 2 r_Y_columnOf [] wc_Y_columnOf := ⟨Or.inr ⟨rfl, rfl⟩, ww 503 (by rfl) (by rfl)⟩
abbrev b_Y_rowOf : ByteArray := prog_3_method_5_code
def y_Y_rowOf : MethodName := ⟨"ColourCharts$Layout", "rowOf", "(I)I"⟩
abbrev r_Y_rowOf : Option FieldType := (Option.some Jvm.ClassFile.FieldType.int)
abbrev wc_Y_rowOf : Cond := Cond.code y_Y_rowOf b_Y_rowOf 2 r_Y_rowOf
set_option maxRecDepth 100000 in
theorem mw_Y_rowOf : rn_mw y_Y_rowOf b_Y_rowOf 2 r_Y_rowOf [] wc_Y_rowOf := ⟨Or.inr ⟨rfl, rfl⟩, ww 507 (by rfl) (by rfl)⟩
abbrev b_P_firstOf : ByteArray := prog_5_method_3_code
def y_P_firstOf : MethodName := ⟨"ColourCharts$Patch", "firstOf", "(III)I"⟩
abbrev r_P_firstOf : Option FieldType := (Option.some Jvm.ClassFile.FieldType.int)
abbrev wc_P_firstOf : Cond := Cond.code y_P_firstOf b_P_firstOf 3 r_P_firstOf
set_option maxRecDepth 100000 in
theorem mw_P_firstOf : rn_mw y_P_firstOf b_P_firstOf 3 r_P_firstOf [] wc_P_firstOf := ⟨Or.inr ⟨rfl, rfl⟩, ww 510 (by rfl) (by rfl)⟩
abbrev b_P_mean : ByteArray := prog_5_method_6_code
def y_P_mean : MethodName := ⟨"ColourCharts$Patch", "mean", "(LColourCharts$Picture;I)I"⟩
abbrev r_P_mean : Option FieldType := (Option.some Jvm.ClassFile.FieldType.int)
abbrev wc_P_mean : Cond := Cond.code y_P_mean b_P_mean 6 r_P_mean
set_option maxRecDepth 100000 in
theorem mw_P_mean : rn_mw y_P_mean b_P_mean 6 r_P_mean [] wc_P_mean := ⟨Or.inr ⟨rfl, rfl⟩, ww 514 (by rfl) (by rfl)⟩
abbrev b_P_cells : ByteArray := prog_5_method_4_code
def y_P_cells : MethodName := ⟨"ColourCharts$Patch", "cells", "()I"⟩
abbrev r_P_cells : Option FieldType := (Option.some Jvm.ClassFile.FieldType.int)
abbrev wc_P_cells : Cond := Cond.code y_P_cells b_P_cells 1 r_P_cells
set_option maxRecDepth 100000 in
theorem mw_P_cells : rn_mw y_P_cells b_P_cells 1 r_P_cells [] wc_P_cells := ⟨Or.inr ⟨rfl, rfl⟩, ww 519 (by rfl) (by rfl)⟩
abbrev b_C_nearest : ByteArray := prog_1_method_33_code
def y_C_nearest : MethodName := ⟨"ColourCharts", "nearest", "(JJ)J"⟩
abbrev r_C_nearest : Option FieldType := (Option.some Jvm.ClassFile.FieldType.long)
abbrev wc_C_nearest : Cond := Cond.code y_C_nearest b_C_nearest 4 r_C_nearest
set_option maxRecDepth 100000 in
theorem mw_C_nearest : rn_mw y_C_nearest b_C_nearest 4 r_C_nearest [] wc_C_nearest := ⟨Or.inr ⟨rfl, rfl⟩, ww 522 (by rfl) (by rfl)⟩
abbrev b_J_floorDivl : ByteArray := prog_16_method_49_code
def y_J_floorDivl : MethodName := ⟨"java/lang/Math", "floorDiv", "(JJ)J"⟩
abbrev r_J_floorDivl : Option FieldType := (Option.some Jvm.ClassFile.FieldType.long)
abbrev wc_J_floorDivl : Cond := Cond.code y_J_floorDivl b_J_floorDivl 6 r_J_floorDivl
set_option maxRecDepth 100000 in
theorem mw_J_floorDivl : rn_mw y_J_floorDivl b_J_floorDivl 6 r_J_floorDivl [] wc_J_floorDivl := ⟨Or.inr ⟨rfl, rfl⟩, ww 526 (by rfl) (by rfl)⟩
abbrev b_L_noise : ByteArray := method_10_code
def y_L_noise : MethodName := ⟨"ColourChartsLaw", "noise", "(LColourCharts;II[J)I"⟩
abbrev r_L_noise : Option FieldType := (Option.some Jvm.ClassFile.FieldType.int)
abbrev hh_L_noise : List (Nat × Nat × Nat × Nat) := [((0 : Nat), (9 : Nat), (12 : Nat), (13 : Nat)), ((0 : Nat), (9 : Nat), (16 : Nat), (28 : Nat))]
abbrev wc_L_noise : Cond := Cond.codeWith y_L_noise b_L_noise 5 r_L_noise hh_L_noise
set_option maxRecDepth 100000 in
theorem mw_L_noise : rn_mw y_L_noise b_L_noise 5 r_L_noise hh_L_noise wc_L_noise := ⟨Or.inl rfl, ww 529 (by rfl) (by rfl)⟩
abbrev b_C_noise : ByteArray := prog_1_method_10_code
def y_C_noise : MethodName := ⟨"ColourCharts", "noise", "(II)J"⟩
abbrev r_C_noise : Option FieldType := (Option.some Jvm.ClassFile.FieldType.long)
abbrev wc_C_noise : Cond := Cond.code y_C_noise b_C_noise 3 r_C_noise
set_option maxRecDepth 100000 in
theorem mw_C_noise : rn_mw y_C_noise b_C_noise 3 r_C_noise [] wc_C_noise := ⟨Or.inr ⟨rfl, rfl⟩, ww 533 (by rfl) (by rfl)⟩
abbrev b_C_isHalfOfFraction : ByteArray := prog_1_method_32_code
def y_C_isHalfOfFraction : MethodName := ⟨"ColourCharts", "isHalfOfFraction", "(I)Z"⟩
abbrev r_C_isHalfOfFraction : Option FieldType := (Option.some Jvm.ClassFile.FieldType.boolean)
abbrev wc_C_isHalfOfFraction : Cond := Cond.code y_C_isHalfOfFraction b_C_isHalfOfFraction 1 r_C_isHalfOfFraction
set_option maxRecDepth 100000 in
theorem mw_C_isHalfOfFraction : rn_mw y_C_isHalfOfFraction b_C_isHalfOfFraction 1 r_C_isHalfOfFraction [] wc_C_isHalfOfFraction := ⟨Or.inr ⟨rfl, rfl⟩, ww 536 (by rfl) (by rfl)⟩
abbrev b_P_spread : ByteArray := prog_5_method_7_code
def y_P_spread : MethodName := ⟨"ColourCharts$Patch", "spread", "(LColourCharts$Picture;)J"⟩
abbrev r_P_spread : Option FieldType := (Option.some Jvm.ClassFile.FieldType.long)
abbrev wc_P_spread : Cond := Cond.code y_P_spread b_P_spread 10 r_P_spread
set_option maxRecDepth 100000 in
theorem mw_P_spread : rn_mw y_P_spread b_P_spread 10 r_P_spread [] wc_P_spread := ⟨Or.inr ⟨rfl, rfl⟩, ww 541 (by rfl) (by rfl)⟩
abbrev b_P_cellsSquared : ByteArray := prog_5_method_5_code
def y_P_cellsSquared : MethodName := ⟨"ColourCharts$Patch", "cellsSquared", "()J"⟩
abbrev r_P_cellsSquared : Option FieldType := (Option.some Jvm.ClassFile.FieldType.long)
abbrev wc_P_cellsSquared : Cond := Cond.code y_P_cellsSquared b_P_cellsSquared 1 r_P_cellsSquared
set_option maxRecDepth 100000 in
theorem mw_P_cellsSquared : rn_mw y_P_cellsSquared b_P_cellsSquared 1 r_P_cellsSquared [] wc_P_cellsSquared := ⟨Or.inr ⟨rfl, rfl⟩, ww 545 (by rfl) (by rfl)⟩
abbrev b_C_lessened : ByteArray := prog_1_method_34_code
def y_C_lessened : MethodName := ⟨"ColourCharts", "lessened", "(JJI)J"⟩
abbrev r_C_lessened : Option FieldType := (Option.some Jvm.ClassFile.FieldType.long)
abbrev wc_C_lessened : Cond := Cond.code y_C_lessened b_C_lessened 7 r_C_lessened
set_option maxRecDepth 100000 in
theorem mw_C_lessened : rn_mw y_C_lessened b_C_lessened 7 r_C_lessened [] wc_C_lessened := ⟨Or.inr ⟨rfl, rfl⟩, ww 548 (by rfl) (by rfl)⟩
abbrev b_C_commonDivisor : ByteArray := prog_1_method_35_code
def y_C_commonDivisor : MethodName := ⟨"ColourCharts", "commonDivisor", "(JJ)J"⟩
abbrev r_C_commonDivisor : Option FieldType := (Option.some Jvm.ClassFile.FieldType.long)
abbrev wc_C_commonDivisor : Cond := Cond.code y_C_commonDivisor b_C_commonDivisor 11 r_C_commonDivisor
set_option maxRecDepth 100000 in
theorem mw_C_commonDivisor : rn_mw y_C_commonDivisor b_C_commonDivisor 11 r_C_commonDivisor [] wc_C_commonDivisor := ⟨Or.inr ⟨rfl, rfl⟩, ww 551 (by rfl) (by rfl)⟩
abbrev b_J_absl : ByteArray := prog_16_method_61_code
def y_J_absl : MethodName := ⟨"java/lang/Math", "abs", "(J)J"⟩
abbrev r_J_absl : Option FieldType := (Option.some Jvm.ClassFile.FieldType.long)
abbrev wc_J_absl : Cond := Cond.code y_J_absl b_J_absl 2 r_J_absl
set_option maxRecDepth 100000 in
theorem mw_J_absl : rn_mw y_J_absl b_J_absl 2 r_J_absl [] wc_J_absl := ⟨Or.inr ⟨rfl, rfl⟩, ww 554 (by rfl) (by rfl)⟩
abbrev b_L_target : ByteArray := method_11_code
def y_L_target : MethodName := ⟨"ColourChartsLaw", "target", "(LColourCharts;IIII)I"⟩
abbrev r_L_target : Option FieldType := (Option.some Jvm.ClassFile.FieldType.int)
abbrev hh_L_target : List (Nat × Nat × Nat × Nat) := [((0 : Nat), (9 : Nat), (12 : Nat), (13 : Nat)), ((0 : Nat), (9 : Nat), (16 : Nat), (15 : Nat))]
abbrev wc_L_target : Cond := Cond.codeWith y_L_target b_L_target 6 r_L_target hh_L_target
set_option maxRecDepth 100000 in
theorem mw_L_target : rn_mw y_L_target b_L_target 6 r_L_target hh_L_target wc_L_target := ⟨Or.inl rfl, ww 557 (by rfl) (by rfl)⟩
abbrev b_C_target : ByteArray := prog_1_method_11_code
def y_C_target : MethodName := ⟨"ColourCharts", "target", "(IIII)V"⟩
abbrev r_C_target : Option FieldType := (Option.none : Option Jvm.ClassFile.FieldType)
abbrev wc_C_target : Cond := Cond.code y_C_target b_C_target 5 r_C_target
set_option maxRecDepth 100000 in
theorem mw_C_target : rn_mw y_C_target b_C_target 5 r_C_target [] wc_C_target := ⟨Or.inr ⟨rfl, rfl⟩, ww 561 (by rfl) (by rfl)⟩
abbrev b_C_isTargetPatch : ByteArray := prog_1_method_31_code
def y_C_isTargetPatch : MethodName := ⟨"ColourCharts", "isTargetPatch", "(I)Z"⟩
abbrev r_C_isTargetPatch : Option FieldType := (Option.some Jvm.ClassFile.FieldType.boolean)
abbrev wc_C_isTargetPatch : Cond := Cond.code y_C_isTargetPatch b_C_isTargetPatch 1 r_C_isTargetPatch
set_option maxRecDepth 100000 in
theorem mw_C_isTargetPatch : rn_mw y_C_isTargetPatch b_C_isTargetPatch 1 r_C_isTargetPatch [] wc_C_isTargetPatch := ⟨Or.inr ⟨rfl, rfl⟩, ww 564 (by rfl) (by rfl)⟩
abbrev b_T_drop : ByteArray := prog_9_method_3_code
def y_T_drop : MethodName := ⟨"ColourCharts$Targets", "drop", "(I)V"⟩
abbrev r_T_drop : Option FieldType := (Option.none : Option Jvm.ClassFile.FieldType)
abbrev wc_T_drop : Cond := Cond.code y_T_drop b_T_drop 2 r_T_drop
set_option maxRecDepth 100000 in
theorem mw_T_drop : rn_mw y_T_drop b_T_drop 2 r_T_drop [] wc_T_drop := ⟨Or.inr ⟨rfl, rfl⟩, ww 569 (by rfl) (by rfl)⟩
abbrev b_T_keep : ByteArray := prog_9_method_2_code
def y_T_keep : MethodName := ⟨"ColourCharts$Targets", "keep", "(IIII)V"⟩
abbrev r_T_keep : Option FieldType := (Option.none : Option Jvm.ClassFile.FieldType)
abbrev wc_T_keep : Cond := Cond.code y_T_keep b_T_keep 5 r_T_keep
set_option maxRecDepth 100000 in
theorem mw_T_keep : rn_mw y_T_keep b_T_keep 5 r_T_keep [] wc_T_keep := ⟨Or.inr ⟨rfl, rfl⟩, ww 574 (by rfl) (by rfl)⟩
abbrev b_L_neutral : ByteArray := method_12_code
def y_L_neutral : MethodName := ⟨"ColourChartsLaw", "neutral", "(LColourCharts;I[J)I"⟩
abbrev r_L_neutral : Option FieldType := (Option.some Jvm.ClassFile.FieldType.int)
abbrev hh_L_neutral : List (Nat × Nat × Nat × Nat) := [((0 : Nat), (9 : Nat), (12 : Nat), (13 : Nat)), ((0 : Nat), (9 : Nat), (15 : Nat), (28 : Nat))]
abbrev wc_L_neutral : Cond := Cond.codeWith y_L_neutral b_L_neutral 4 r_L_neutral hh_L_neutral
set_option maxRecDepth 100000 in
theorem mw_L_neutral : rn_mw y_L_neutral b_L_neutral 4 r_L_neutral hh_L_neutral wc_L_neutral := ⟨Or.inl rfl, ww 577 (by rfl) (by rfl)⟩
abbrev b_C_neutral : ByteArray := prog_1_method_12_code
def y_C_neutral : MethodName := ⟨"ColourCharts", "neutral", "(I)I"⟩
abbrev r_C_neutral : Option FieldType := (Option.some Jvm.ClassFile.FieldType.int)
abbrev wc_C_neutral : Cond := Cond.code y_C_neutral b_C_neutral 3 r_C_neutral
set_option maxRecDepth 100000 in
theorem mw_C_neutral : rn_mw y_C_neutral b_C_neutral 3 r_C_neutral [] wc_C_neutral := ⟨Or.inr ⟨rfl, rfl⟩, ww 581 (by rfl) (by rfl)⟩
abbrev b_L_fit : ByteArray := method_13_code
def y_L_fit : MethodName := ⟨"ColourChartsLaw", "fit", "(LColourCharts;[J)I"⟩
abbrev r_L_fit : Option FieldType := (Option.some Jvm.ClassFile.FieldType.int)
abbrev hh_L_fit : List (Nat × Nat × Nat × Nat) := [((0 : Nat), (8 : Nat), (11 : Nat), (28 : Nat))]
abbrev wc_L_fit : Cond := Cond.codeWith y_L_fit b_L_fit 3 r_L_fit hh_L_fit
set_option maxRecDepth 100000 in
theorem mw_L_fit : rn_mw y_L_fit b_L_fit 3 r_L_fit hh_L_fit wc_L_fit := ⟨Or.inl rfl, ww 585 (by rfl) (by rfl)⟩
abbrev b_C_fit : ByteArray := prog_1_method_13_code
def y_C_fit : MethodName := ⟨"ColourCharts", "fit", "()I"⟩
abbrev r_C_fit : Option FieldType := (Option.some Jvm.ClassFile.FieldType.int)
abbrev wc_C_fit : Cond := Cond.code y_C_fit b_C_fit 3 r_C_fit
set_option maxRecDepth 100000 in
theorem mw_C_fit : rn_mw y_C_fit b_C_fit 3 r_C_fit [] wc_C_fit := ⟨Or.inr ⟨rfl, rfl⟩, ww 589 (by rfl) (by rfl)⟩
abbrev b_T_countBelow : ByteArray := prog_9_method_5_code
def y_T_countBelow : MethodName := ⟨"ColourCharts$Targets", "countBelow", "(I)I"⟩
abbrev r_T_countBelow : Option FieldType := (Option.some Jvm.ClassFile.FieldType.int)
abbrev wc_T_countBelow : Cond := Cond.code y_T_countBelow b_T_countBelow 4 r_T_countBelow
set_option maxRecDepth 100000 in
theorem mw_T_countBelow : rn_mw y_T_countBelow b_T_countBelow 4 r_T_countBelow [] wc_T_countBelow := ⟨Or.inr ⟨rfl, rfl⟩, ww 594 (by rfl) (by rfl)⟩
abbrev b_C_fitPart : ByteArray := prog_1_method_24_code
def y_C_fitPart : MethodName := ⟨"ColourCharts", "fitPart", "(I)V"⟩
abbrev r_C_fitPart : Option FieldType := (Option.none : Option Jvm.ClassFile.FieldType)
abbrev wc_C_fitPart : Cond := Cond.code y_C_fitPart b_C_fitPart 7 r_C_fitPart
set_option maxRecDepth 100000 in
theorem mw_C_fitPart : rn_mw y_C_fitPart b_C_fitPart 7 r_C_fitPart [] wc_C_fitPart := ⟨Or.inr ⟨rfl, rfl⟩, ww 598 (by rfl) (by rfl)⟩
abbrev b_T_partOf : ByteArray := prog_9_method_4_code
def y_T_partOf : MethodName := ⟨"ColourCharts$Targets", "partOf", "(II)I"⟩
abbrev r_T_partOf : Option FieldType := (Option.some Jvm.ClassFile.FieldType.int)
abbrev wc_T_partOf : Cond := Cond.code y_T_partOf b_T_partOf 3 r_T_partOf
set_option maxRecDepth 100000 in
theorem mw_T_partOf : rn_mw y_T_partOf b_T_partOf 3 r_T_partOf [] wc_T_partOf := ⟨Or.inr ⟨rfl, rfl⟩, ww 602 (by rfl) (by rfl)⟩
abbrev b_S_clear : ByteArray := prog_8_method_2_code
def y_S_clear : MethodName := ⟨"ColourCharts$Sums", "clear", "()V"⟩
abbrev r_S_clear : Option FieldType := (Option.none : Option Jvm.ClassFile.FieldType)
abbrev wc_S_clear : Cond := Cond.code y_S_clear b_S_clear 1 r_S_clear
set_option maxRecDepth 100000 in
theorem mw_S_clear : rn_mw y_S_clear b_S_clear 1 r_S_clear [] wc_S_clear := ⟨Or.inr ⟨rfl, rfl⟩, ww 606 (by rfl) (by rfl)⟩
abbrev b_S_add : ByteArray := prog_8_method_3_code
def y_S_add : MethodName := ⟨"ColourCharts$Sums", "add", "(JJ)V"⟩
abbrev r_S_add : Option FieldType := (Option.none : Option Jvm.ClassFile.FieldType)
abbrev wc_S_add : Cond := Cond.code y_S_add b_S_add 5 r_S_add
set_option maxRecDepth 100000 in
theorem mw_S_add : rn_mw y_S_add b_S_add 5 r_S_add [] wc_S_add := ⟨Or.inr ⟨rfl, rfl⟩, ww 610 (by rfl) (by rfl)⟩
abbrev b_N_hold : ByteArray := prog_4_method_3_code
def y_N_hold : MethodName := ⟨"ColourCharts$Lines", "hold", "(ILColourCharts$Sums;JJ)V"⟩
abbrev r_N_hold : Option FieldType := (Option.none : Option Jvm.ClassFile.FieldType)
abbrev wc_N_hold : Cond := Cond.code y_N_hold b_N_hold 7 r_N_hold
set_option maxRecDepth 100000 in
theorem mw_N_hold : rn_mw y_N_hold b_N_hold 7 r_N_hold [] wc_N_hold := ⟨Or.inr ⟨rfl, rfl⟩, ww 614 (by rfl) (by rfl)⟩
abbrev b_N_keep : ByteArray := prog_4_method_4_code
def y_N_keep : MethodName := ⟨"ColourCharts$Lines", "keep", "(IJJJ)V"⟩
abbrev r_N_keep : Option FieldType := (Option.none : Option Jvm.ClassFile.FieldType)
abbrev wc_N_keep : Cond := Cond.code y_N_keep b_N_keep 10 r_N_keep
set_option maxRecDepth 100000 in
theorem mw_N_keep : rn_mw y_N_keep b_N_keep 10 r_N_keep [] wc_N_keep := ⟨Or.inr ⟨rfl, rfl⟩, ww 618 (by rfl) (by rfl)⟩
abbrev b_N_fitFreely : ByteArray := prog_4_method_2_code
def y_N_fitFreely : MethodName := ⟨"ColourCharts$Lines", "fitFreely", "(ILColourCharts$Sums;)V"⟩
abbrev r_N_fitFreely : Option FieldType := (Option.none : Option Jvm.ClassFile.FieldType)
abbrev wc_N_fitFreely : Cond := Cond.code y_N_fitFreely b_N_fitFreely 5 r_N_fitFreely
set_option maxRecDepth 100000 in
theorem mw_N_fitFreely : rn_mw y_N_fitFreely b_N_fitFreely 5 r_N_fitFreely [] wc_N_fitFreely := ⟨Or.inr ⟨rfl, rfl⟩, ww 623 (by rfl) (by rfl)⟩
abbrev b_S_freeBelow : ByteArray := prog_8_method_5_code
def y_S_freeBelow : MethodName := ⟨"ColourCharts$Sums", "freeBelow", "()J"⟩
abbrev r_S_freeBelow : Option FieldType := (Option.some Jvm.ClassFile.FieldType.long)
abbrev wc_S_freeBelow : Cond := Cond.code y_S_freeBelow b_S_freeBelow 1 r_S_freeBelow
set_option maxRecDepth 100000 in
theorem mw_S_freeBelow : rn_mw y_S_freeBelow b_S_freeBelow 1 r_S_freeBelow [] wc_S_freeBelow := ⟨Or.inr ⟨rfl, rfl⟩, ww 627 (by rfl) (by rfl)⟩
abbrev b_S_freeAbove : ByteArray := prog_8_method_4_code
def y_S_freeAbove : MethodName := ⟨"ColourCharts$Sums", "freeAbove", "()J"⟩
abbrev r_S_freeAbove : Option FieldType := (Option.some Jvm.ClassFile.FieldType.long)
abbrev wc_S_freeAbove : Cond := Cond.code y_S_freeAbove b_S_freeAbove 1 r_S_freeAbove
set_option maxRecDepth 100000 in
theorem mw_S_freeAbove : rn_mw y_S_freeAbove b_S_freeAbove 1 r_S_freeAbove [] wc_S_freeAbove := ⟨Or.inr ⟨rfl, rfl⟩, ww 631 (by rfl) (by rfl)⟩
abbrev b_L_line : ByteArray := method_14_code
def y_L_line : MethodName := ⟨"ColourChartsLaw", "line", "(LColourCharts;II[J)I"⟩
abbrev r_L_line : Option FieldType := (Option.some Jvm.ClassFile.FieldType.int)
abbrev hh_L_line : List (Nat × Nat × Nat × Nat) := [((0 : Nat), (9 : Nat), (12 : Nat), (13 : Nat)), ((0 : Nat), (9 : Nat), (16 : Nat), (28 : Nat))]
abbrev wc_L_line : Cond := Cond.codeWith y_L_line b_L_line 5 r_L_line hh_L_line
set_option maxRecDepth 100000 in
theorem mw_L_line : rn_mw y_L_line b_L_line 5 r_L_line hh_L_line wc_L_line := ⟨Or.inl rfl, ww 634 (by rfl) (by rfl)⟩
abbrev b_C_line : ByteArray := prog_1_method_14_code
def y_C_line : MethodName := ⟨"ColourCharts", "line", "(II)J"⟩
abbrev r_C_line : Option FieldType := (Option.some Jvm.ClassFile.FieldType.long)
abbrev wc_C_line : Cond := Cond.code y_C_line b_C_line 3 r_C_line
set_option maxRecDepth 100000 in
theorem mw_C_line : rn_mw y_C_line b_C_line 3 r_C_line [] wc_C_line := ⟨Or.inr ⟨rfl, rfl⟩, ww 638 (by rfl) (by rfl)⟩
abbrev b_N_number : ByteArray := prog_4_method_5_code
def y_N_number : MethodName := ⟨"ColourCharts$Lines", "number", "(II)J"⟩
abbrev r_N_number : Option FieldType := (Option.some Jvm.ClassFile.FieldType.long)
abbrev wc_N_number : Cond := Cond.code y_N_number b_N_number 3 r_N_number
set_option maxRecDepth 100000 in
theorem mw_N_number : rn_mw y_N_number b_N_number 3 r_N_number [] wc_N_number := ⟨Or.inr ⟨rfl, rfl⟩, ww 644 (by rfl) (by rfl)⟩
abbrev b_L_colour : ByteArray := method_15_code
def y_L_colour : MethodName := ⟨"ColourChartsLaw", "colour", "(LColourCharts;II[J)I"⟩
abbrev r_L_colour : Option FieldType := (Option.some Jvm.ClassFile.FieldType.int)
abbrev hh_L_colour : List (Nat × Nat × Nat × Nat) := [((0 : Nat), (10 : Nat), (13 : Nat), (13 : Nat)), ((0 : Nat), (10 : Nat), (17 : Nat), (15 : Nat)), ((0 : Nat), (10 : Nat), (21 : Nat), (28 : Nat))]
abbrev wc_L_colour : Cond := Cond.codeWith y_L_colour b_L_colour 5 r_L_colour hh_L_colour
set_option maxRecDepth 100000 in
theorem mw_L_colour : rn_mw y_L_colour b_L_colour 5 r_L_colour hh_L_colour wc_L_colour := ⟨Or.inl rfl, ww 647 (by rfl) (by rfl)⟩
abbrev b_C_colour : ByteArray := prog_1_method_15_code
def y_C_colour : MethodName := ⟨"ColourCharts", "colour", "(II)I"⟩
abbrev r_C_colour : Option FieldType := (Option.some Jvm.ClassFile.FieldType.int)
abbrev wc_C_colour : Cond := Cond.code y_C_colour b_C_colour 3 r_C_colour
set_option maxRecDepth 100000 in
theorem mw_C_colour : rn_mw y_C_colour b_C_colour 3 r_C_colour [] wc_C_colour := ⟨Or.inr ⟨rfl, rfl⟩, ww 651 (by rfl) (by rfl)⟩
abbrev b_N_partFrom : ByteArray := prog_4_method_6_code
def y_N_partFrom : MethodName := ⟨"ColourCharts$Lines", "partFrom", "(II)I"⟩
abbrev r_N_partFrom : Option FieldType := (Option.some Jvm.ClassFile.FieldType.int)
abbrev wc_N_partFrom : Cond := Cond.code y_N_partFrom b_N_partFrom 5 r_N_partFrom
set_option maxRecDepth 100000 in
theorem mw_N_partFrom : rn_mw y_N_partFrom b_N_partFrom 5 r_N_partFrom [] wc_N_partFrom := ⟨Or.inr ⟨rfl, rfl⟩, ww 656 (by rfl) (by rfl)⟩
abbrev b_J_minl : ByteArray := prog_16_method_70_code
def y_J_minl : MethodName := ⟨"java/lang/Math", "min", "(JJ)J"⟩
abbrev r_J_minl : Option FieldType := (Option.some Jvm.ClassFile.FieldType.long)
abbrev wc_J_minl : Cond := Cond.code y_J_minl b_J_minl 4 r_J_minl
set_option maxRecDepth 100000 in
theorem mw_J_minl : rn_mw y_J_minl b_J_minl 4 r_J_minl [] wc_J_minl := ⟨Or.inr ⟨rfl, rfl⟩, ww 661 (by rfl) (by rfl)⟩
abbrev b_J_maxl : ByteArray := prog_16_method_66_code
def y_J_maxl : MethodName := ⟨"java/lang/Math", "max", "(JJ)J"⟩
abbrev r_J_maxl : Option FieldType := (Option.some Jvm.ClassFile.FieldType.long)
abbrev wc_J_maxl : Cond := Cond.code y_J_maxl b_J_maxl 4 r_J_maxl
set_option maxRecDepth 100000 in
theorem mw_J_maxl : rn_mw y_J_maxl b_J_maxl 4 r_J_maxl [] wc_J_maxl := ⟨Or.inr ⟨rfl, rfl⟩, ww 664 (by rfl) (by rfl)⟩
abbrev b_L_difference : ByteArray := method_16_code
def y_L_difference : MethodName := ⟨"ColourChartsLaw", "difference", "(LColourCharts;I[J)I"⟩
abbrev r_L_difference : Option FieldType := (Option.some Jvm.ClassFile.FieldType.int)
abbrev hh_L_difference : List (Nat × Nat × Nat × Nat) := [((0 : Nat), (9 : Nat), (12 : Nat), (13 : Nat)), ((0 : Nat), (9 : Nat), (15 : Nat), (28 : Nat))]
abbrev wc_L_difference : Cond := Cond.codeWith y_L_difference b_L_difference 4 r_L_difference hh_L_difference
set_option maxRecDepth 100000 in
theorem mw_L_difference : rn_mw y_L_difference b_L_difference 4 r_L_difference hh_L_difference wc_L_difference := ⟨Or.inl rfl, ww 667 (by rfl) (by rfl)⟩
abbrev b_C_difference : ByteArray := prog_1_method_16_code
def y_C_difference : MethodName := ⟨"ColourCharts", "difference", "(I)I"⟩
abbrev r_C_difference : Option FieldType := (Option.some Jvm.ClassFile.FieldType.int)
abbrev wc_C_difference : Cond := Cond.code y_C_difference b_C_difference 2 r_C_difference
set_option maxRecDepth 100000 in
theorem mw_C_difference : rn_mw y_C_difference b_C_difference 2 r_C_difference [] wc_C_difference := ⟨Or.inr ⟨rfl, rfl⟩, ww 671 (by rfl) (by rfl)⟩
abbrev b_C_differenceOrNone : ByteArray := prog_1_method_25_code
def y_C_differenceOrNone : MethodName := ⟨"ColourCharts", "differenceOrNone", "(I)I"⟩
abbrev r_C_differenceOrNone : Option FieldType := (Option.some Jvm.ClassFile.FieldType.int)
abbrev wc_C_differenceOrNone : Cond := Cond.code y_C_differenceOrNone b_C_differenceOrNone 5 r_C_differenceOrNone
set_option maxRecDepth 100000 in
theorem mw_C_differenceOrNone : rn_mw y_C_differenceOrNone b_C_differenceOrNone 5 r_C_differenceOrNone [] wc_C_differenceOrNone := ⟨Or.inr ⟨rfl, rfl⟩, ww 676 (by rfl) (by rfl)⟩
abbrev b_L_unit : ByteArray := method_17_code
def y_L_unit : MethodName := ⟨"ColourChartsLaw", "unit", "(LColourCharts;I[J)I"⟩
abbrev r_L_unit : Option FieldType := (Option.some Jvm.ClassFile.FieldType.int)
abbrev hh_L_unit : List (Nat × Nat × Nat × Nat) := [((0 : Nat), (9 : Nat), (12 : Nat), (15 : Nat)), ((0 : Nat), (9 : Nat), (15 : Nat), (28 : Nat))]
abbrev wc_L_unit : Cond := Cond.codeWith y_L_unit b_L_unit 4 r_L_unit hh_L_unit
set_option maxRecDepth 100000 in
theorem mw_L_unit : rn_mw y_L_unit b_L_unit 4 r_L_unit hh_L_unit wc_L_unit := ⟨Or.inl rfl, ww 681 (by rfl) (by rfl)⟩
abbrev b_C_unit : ByteArray := prog_1_method_17_code
def y_C_unit : MethodName := ⟨"ColourCharts", "unit", "(I)I"⟩
abbrev r_C_unit : Option FieldType := (Option.some Jvm.ClassFile.FieldType.int)
abbrev wc_C_unit : Cond := Cond.code y_C_unit b_C_unit 2 r_C_unit
set_option maxRecDepth 100000 in
theorem mw_C_unit : rn_mw y_C_unit b_C_unit 2 r_C_unit [] wc_C_unit := ⟨Or.inr ⟨rfl, rfl⟩, ww 685 (by rfl) (by rfl)⟩
abbrev b_R_textIsFull : ByteArray := prog_7_method_2_code
def y_R_textIsFull : MethodName := ⟨"ColourCharts$Rules", "textIsFull", "()Z"⟩
abbrev r_R_textIsFull : Option FieldType := (Option.some Jvm.ClassFile.FieldType.boolean)
abbrev wc_R_textIsFull : Cond := Cond.code y_R_textIsFull b_R_textIsFull 1 r_R_textIsFull
set_option maxRecDepth 100000 in
theorem mw_R_textIsFull : rn_mw y_R_textIsFull b_R_textIsFull 1 r_R_textIsFull [] wc_R_textIsFull := ⟨Or.inr ⟨rfl, rfl⟩, ww 690 (by rfl) (by rfl)⟩
abbrev b_R_append : ByteArray := prog_7_method_4_code
def y_R_append : MethodName := ⟨"ColourCharts$Rules", "append", "(C)I"⟩
abbrev r_R_append : Option FieldType := (Option.some Jvm.ClassFile.FieldType.int)
abbrev wc_R_append : Cond := Cond.code y_R_append b_R_append 2 r_R_append
set_option maxRecDepth 100000 in
theorem mw_R_append : rn_mw y_R_append b_R_append 2 r_R_append [] wc_R_append := ⟨Or.inr ⟨rfl, rfl⟩, ww 695 (by rfl) (by rfl)⟩
abbrev b_L_rule : ByteArray := method_18_code
def y_L_rule : MethodName := ⟨"ColourChartsLaw", "rule", "(LColourCharts;[J)I"⟩
abbrev r_L_rule : Option FieldType := (Option.some Jvm.ClassFile.FieldType.int)
abbrev hh_L_rule : List (Nat × Nat × Nat × Nat) := [((0 : Nat), (8 : Nat), (11 : Nat), (28 : Nat))]
abbrev wc_L_rule : Cond := Cond.codeWith y_L_rule b_L_rule 3 r_L_rule hh_L_rule
set_option maxRecDepth 100000 in
theorem mw_L_rule : rn_mw y_L_rule b_L_rule 3 r_L_rule hh_L_rule wc_L_rule := ⟨Or.inl rfl, ww 698 (by rfl) (by rfl)⟩
abbrev b_C_rule : ByteArray := prog_1_method_18_code
def y_C_rule : MethodName := ⟨"ColourCharts", "rule", "()I"⟩
abbrev r_C_rule : Option FieldType := (Option.some Jvm.ClassFile.FieldType.int)
abbrev wc_C_rule : Cond := Cond.code y_C_rule b_C_rule 1 r_C_rule
set_option maxRecDepth 100000 in
theorem mw_C_rule : rn_mw y_C_rule b_C_rule 1 r_C_rule [] wc_C_rule := ⟨Or.inr ⟨rfl, rfl⟩, ww 702 (by rfl) (by rfl)⟩
abbrev b_R_areFull : ByteArray := prog_7_method_3_code
def y_R_areFull : MethodName := ⟨"ColourCharts$Rules", "areFull", "()Z"⟩
abbrev r_R_areFull : Option FieldType := (Option.some Jvm.ClassFile.FieldType.boolean)
abbrev wc_R_areFull : Cond := Cond.code y_R_areFull b_R_areFull 1 r_R_areFull
set_option maxRecDepth 100000 in
theorem mw_R_areFull : rn_mw y_R_areFull b_R_areFull 1 r_R_areFull [] wc_R_areFull := ⟨Or.inr ⟨rfl, rfl⟩, ww 706 (by rfl) (by rfl)⟩
abbrev b_R_takeText : ByteArray := prog_7_method_5_code
def y_R_takeText : MethodName := ⟨"ColourCharts$Rules", "takeText", "()I"⟩
abbrev r_R_takeText : Option FieldType := (Option.some Jvm.ClassFile.FieldType.int)
abbrev wc_R_takeText : Cond := Cond.code y_R_takeText b_R_takeText 2 r_R_takeText
set_option maxRecDepth 100000 in
theorem mw_R_takeText : rn_mw y_R_takeText b_R_takeText 2 r_R_takeText [] wc_R_takeText := ⟨Or.inr ⟨rfl, rfl⟩, ww 711 (by rfl) (by rfl)⟩
abbrev b_R_textIsRule : ByteArray := prog_7_method_6_code
def y_R_textIsRule : MethodName := ⟨"ColourCharts$Rules", "textIsRule", "()Z"⟩
abbrev r_R_textIsRule : Option FieldType := (Option.some Jvm.ClassFile.FieldType.boolean)
abbrev wc_R_textIsRule : Cond := Cond.code y_R_textIsRule b_R_textIsRule 2 r_R_textIsRule
set_option maxRecDepth 100000 in
theorem mw_R_textIsRule : rn_mw y_R_textIsRule b_R_textIsRule 2 r_R_textIsRule [] wc_R_textIsRule := ⟨Or.inr ⟨rfl, rfl⟩, ww 715 (by rfl) (by rfl)⟩
abbrev b_R_numberInText : ByteArray := prog_7_method_7_code
def y_R_numberInText : MethodName := ⟨"ColourCharts$Rules", "numberInText", "()I"⟩
abbrev r_R_numberInText : Option FieldType := (Option.some Jvm.ClassFile.FieldType.int)
abbrev wc_R_numberInText : Cond := Cond.code y_R_numberInText b_R_numberInText 3 r_R_numberInText
set_option maxRecDepth 100000 in
theorem mw_R_numberInText : rn_mw y_R_numberInText b_R_numberInText 3 r_R_numberInText [] wc_R_numberInText := ⟨Or.inr ⟨rfl, rfl⟩, ww 719 (by rfl) (by rfl)⟩
abbrev b_L_reject : ByteArray := method_19_code
def y_L_reject : MethodName := ⟨"ColourChartsLaw", "reject", "(LColourCharts;[J)I"⟩
abbrev r_L_reject : Option FieldType := (Option.some Jvm.ClassFile.FieldType.int)
abbrev hh_L_reject : List (Nat × Nat × Nat × Nat) := [((0 : Nat), (8 : Nat), (11 : Nat), (28 : Nat))]
abbrev wc_L_reject : Cond := Cond.codeWith y_L_reject b_L_reject 3 r_L_reject hh_L_reject
set_option maxRecDepth 100000 in
theorem mw_L_reject : rn_mw y_L_reject b_L_reject 3 r_L_reject hh_L_reject wc_L_reject := ⟨Or.inl rfl, ww 722 (by rfl) (by rfl)⟩
abbrev b_C_reject : ByteArray := prog_1_method_19_code
def y_C_reject : MethodName := ⟨"ColourCharts", "reject", "()I"⟩
abbrev r_C_reject : Option FieldType := (Option.some Jvm.ClassFile.FieldType.int)
abbrev wc_C_reject : Cond := Cond.code y_C_reject b_C_reject 2 r_C_reject
set_option maxRecDepth 100000 in
theorem mw_C_reject : rn_mw y_C_reject b_C_reject 2 r_C_reject [] wc_C_reject := ⟨Or.inr ⟨rfl, rfl⟩, ww 726 (by rfl) (by rfl)⟩
abbrev b_C_greatestDifference : ByteArray := prog_1_method_26_code
def y_C_greatestDifference : MethodName := ⟨"ColourCharts", "greatestDifference", "()I"⟩
abbrev r_C_greatestDifference : Option FieldType := (Option.some Jvm.ClassFile.FieldType.int)
abbrev wc_C_greatestDifference : Cond := Cond.code y_C_greatestDifference b_C_greatestDifference 3 r_C_greatestDifference
set_option maxRecDepth 100000 in
theorem mw_C_greatestDifference : rn_mw y_C_greatestDifference b_C_greatestDifference 3 r_C_greatestDifference [] wc_C_greatestDifference := ⟨Or.inr ⟨rfl, rfl⟩, ww 730 (by rfl) (by rfl)⟩
abbrev b_C_greatestNoise : ByteArray := prog_1_method_27_code
def y_C_greatestNoise : MethodName := ⟨"ColourCharts", "greatestNoise", "()J"⟩
abbrev r_C_greatestNoise : Option FieldType := (Option.some Jvm.ClassFile.FieldType.long)
abbrev wc_C_greatestNoise : Cond := Cond.code y_C_greatestNoise b_C_greatestNoise 6 r_C_greatestNoise
set_option maxRecDepth 100000 in
theorem mw_C_greatestNoise : rn_mw y_C_greatestNoise b_C_greatestNoise 6 r_C_greatestNoise [] wc_C_greatestNoise := ⟨Or.inr ⟨rfl, rfl⟩, ww 735 (by rfl) (by rfl)⟩
abbrev b_R_firstRejecting : ByteArray := prog_7_method_8_code
def y_R_firstRejecting : MethodName := ⟨"ColourCharts$Rules", "firstRejecting", "(JJJ)I"⟩
abbrev r_R_firstRejecting : Option FieldType := (Option.some Jvm.ClassFile.FieldType.int)
abbrev wc_R_firstRejecting : Cond := Cond.code y_R_firstRejecting b_R_firstRejecting 11 r_R_firstRejecting
set_option maxRecDepth 100000 in
theorem mw_R_firstRejecting : rn_mw y_R_firstRejecting b_R_firstRejecting 11 r_R_firstRejecting [] wc_R_firstRejecting := ⟨Or.inr ⟨rfl, rfl⟩, ww 740 (by rfl) (by rfl)⟩
abbrev b_L_day : ByteArray := method_20_code
def y_L_day : MethodName := ⟨"ColourChartsLaw", "day", "(LColourCharts;II[J)I"⟩
abbrev r_L_day : Option FieldType := (Option.some Jvm.ClassFile.FieldType.int)
abbrev hh_L_day : List (Nat × Nat × Nat × Nat) := [((0 : Nat), (10 : Nat), (13 : Nat), (15 : Nat)), ((0 : Nat), (10 : Nat), (17 : Nat), (28 : Nat))]
abbrev wc_L_day : Cond := Cond.codeWith y_L_day b_L_day 5 r_L_day hh_L_day
set_option maxRecDepth 100000 in
theorem mw_L_day : rn_mw y_L_day b_L_day 5 r_L_day hh_L_day wc_L_day := ⟨Or.inl rfl, ww 743 (by rfl) (by rfl)⟩
abbrev b_C_day : ByteArray := prog_1_method_20_code
def y_C_day : MethodName := ⟨"ColourCharts", "day", "(II)I"⟩
abbrev r_C_day : Option FieldType := (Option.some Jvm.ClassFile.FieldType.int)
abbrev wc_C_day : Cond := Cond.code y_C_day b_C_day 3 r_C_day
set_option maxRecDepth 100000 in
theorem mw_C_day : rn_mw y_C_day b_C_day 3 r_C_day [] wc_C_day := ⟨Or.inr ⟨rfl, rfl⟩, ww 747 (by rfl) (by rfl)⟩
abbrev b_L_drift : ByteArray := method_21_code
def y_L_drift : MethodName := ⟨"ColourChartsLaw", "drift", "(LColourCharts;I[J)I"⟩
abbrev r_L_drift : Option FieldType := (Option.some Jvm.ClassFile.FieldType.int)
abbrev hh_L_drift : List (Nat × Nat × Nat × Nat) := [((0 : Nat), (8 : Nat), (11 : Nat), (13 : Nat))]
abbrev wc_L_drift : Cond := Cond.codeWith y_L_drift b_L_drift 4 r_L_drift hh_L_drift
set_option maxRecDepth 100000 in
theorem mw_L_drift : rn_mw y_L_drift b_L_drift 4 r_L_drift hh_L_drift wc_L_drift := ⟨Or.inl rfl, ww 753 (by rfl) (by rfl)⟩
abbrev b_C_drift : ByteArray := prog_1_method_21_code
def y_C_drift : MethodName := ⟨"ColourCharts", "drift", "(I)J"⟩
abbrev r_C_drift : Option FieldType := (Option.some Jvm.ClassFile.FieldType.long)
abbrev wc_C_drift : Cond := Cond.code y_C_drift b_C_drift 2 r_C_drift
set_option maxRecDepth 100000 in
theorem mw_C_drift : rn_mw y_C_drift b_C_drift 2 r_C_drift [] wc_C_drift := ⟨Or.inr ⟨rfl, rfl⟩, ww 757 (by rfl) (by rfl)⟩
abbrev b_L_count : ByteArray := method_22_code
def y_L_count : MethodName := ⟨"ColourChartsLaw", "count", "(LColourCharts;I[J)I"⟩
abbrev r_L_count : Option FieldType := (Option.some Jvm.ClassFile.FieldType.int)
abbrev hh_L_count : List (Nat × Nat × Nat × Nat) := [((0 : Nat), (9 : Nat), (12 : Nat), (13 : Nat))]
abbrev wc_L_count : Cond := Cond.codeWith y_L_count b_L_count 4 r_L_count hh_L_count
set_option maxRecDepth 100000 in
theorem mw_L_count : rn_mw y_L_count b_L_count 4 r_L_count hh_L_count wc_L_count := ⟨Or.inl rfl, ww 763 (by rfl) (by rfl)⟩
abbrev b_C_count : ByteArray := prog_1_method_22_code
def y_C_count : MethodName := ⟨"ColourCharts", "count", "(I)I"⟩
abbrev r_C_count : Option FieldType := (Option.some Jvm.ClassFile.FieldType.int)
abbrev wc_C_count : Cond := Cond.code y_C_count b_C_count 2 r_C_count
set_option maxRecDepth 100000 in
theorem mw_C_count : rn_mw y_C_count b_C_count 2 r_C_count [] wc_C_count := ⟨Or.inr ⟨rfl, rfl⟩, ww 767 (by rfl) (by rfl)⟩
abbrev b_M_init : ByteArray := prog_11_method_1_code
def y_M_init : MethodName := ⟨"ColourChartsModel", "<init>", "(II)V"⟩
abbrev r_M_init : Option FieldType := (Option.none : Option Jvm.ClassFile.FieldType)
abbrev wc_M_init : Cond := Cond.code y_M_init b_M_init 4 r_M_init
set_option maxRecDepth 100000 in
theorem mw_M_init : rn_mw y_M_init b_M_init 4 r_M_init [] wc_M_init := ⟨Or.inr ⟨rfl, rfl⟩, ww 773 (by rfl) (by rfl)⟩
abbrev b_M_thrown : ByteArray := prog_11_method_2_code
def y_M_thrown : MethodName := ⟨"ColourChartsModel", "thrown", "()I"⟩
abbrev r_M_thrown : Option FieldType := (Option.some Jvm.ClassFile.FieldType.int)
abbrev wc_M_thrown : Cond := Cond.code y_M_thrown b_M_thrown 1 r_M_thrown
set_option maxRecDepth 100000 in
theorem mw_M_thrown : rn_mw y_M_thrown b_M_thrown 1 r_M_thrown [] wc_M_thrown := ⟨Or.inr ⟨rfl, rfl⟩, ww 875 (by rfl) (by rfl)⟩
abbrev b_M_pixel : ByteArray := prog_11_method_6_code
def y_M_pixel : MethodName := ⟨"ColourChartsModel", "pixel", "(IIII)I"⟩
abbrev r_M_pixel : Option FieldType := (Option.some Jvm.ClassFile.FieldType.int)
abbrev wc_M_pixel : Cond := Cond.code y_M_pixel b_M_pixel 8 r_M_pixel
set_option maxRecDepth 100000 in
theorem mw_M_pixel : rn_mw y_M_pixel b_M_pixel 8 r_M_pixel [] wc_M_pixel := ⟨Or.inr ⟨rfl, rfl⟩, ww 879 (by rfl) (by rfl)⟩
abbrev b_M_isCell : ByteArray := prog_11_method_5_code
def y_M_isCell : MethodName := ⟨"ColourChartsModel", "isCell", "(II)Z"⟩
abbrev r_M_isCell : Option FieldType := (Option.some Jvm.ClassFile.FieldType.boolean)
abbrev wc_M_isCell : Cond := Cond.code y_M_isCell b_M_isCell 3 r_M_isCell
set_option maxRecDepth 100000 in
theorem mw_M_isCell : rn_mw y_M_isCell b_M_isCell 3 r_M_isCell [] wc_M_isCell := ⟨Or.inr ⟨rfl, rfl⟩, ww 883 (by rfl) (by rfl)⟩
abbrev b_M_within : ByteArray := prog_11_method_4_code
def y_M_within : MethodName := ⟨"ColourChartsModel", "within", "(III)Z"⟩
abbrev r_M_within : Option FieldType := (Option.some Jvm.ClassFile.FieldType.boolean)
abbrev wc_M_within : Cond := Cond.code y_M_within b_M_within 3 r_M_within
set_option maxRecDepth 100000 in
theorem mw_M_within : rn_mw y_M_within b_M_within 3 r_M_within [] wc_M_within := ⟨Or.inr ⟨rfl, rfl⟩, ww 886 (by rfl) (by rfl)⟩
abbrev b_M_goes : ByteArray := prog_11_method_3_code
def y_M_goes : MethodName := ⟨"ColourChartsModel", "goes", "(ZZZ)Z"⟩
abbrev r_M_goes : Option FieldType := (Option.some Jvm.ClassFile.FieldType.boolean)
abbrev wc_M_goes : Cond := Cond.code y_M_goes b_M_goes 4 r_M_goes
set_option maxRecDepth 100000 in
theorem mw_M_goes : rn_mw y_M_goes b_M_goes 4 r_M_goes [] wc_M_goes := ⟨Or.inr ⟨rfl, rfl⟩, ww 890 (by rfl) (by rfl)⟩
abbrev b_M_light : ByteArray := prog_11_method_7_code
def y_M_light : MethodName := ⟨"ColourChartsModel", "light", "(III)I"⟩
abbrev r_M_light : Option FieldType := (Option.some Jvm.ClassFile.FieldType.int)
abbrev wc_M_light : Cond := Cond.code y_M_light b_M_light 5 r_M_light
set_option maxRecDepth 100000 in
theorem mw_M_light : rn_mw y_M_light b_M_light 5 r_M_light [] wc_M_light := ⟨Or.inr ⟨rfl, rfl⟩, ww 894 (by rfl) (by rfl)⟩
abbrev b_M_lit : ByteArray := prog_11_method_9_code
def y_M_lit : MethodName := ⟨"ColourChartsModel", "lit", "(III)I"⟩
abbrev r_M_lit : Option FieldType := (Option.some Jvm.ClassFile.FieldType.int)
abbrev wc_M_lit : Cond := Cond.code y_M_lit b_M_lit 4 r_M_lit
set_option maxRecDepth 100000 in
theorem mw_M_lit : rn_mw y_M_lit b_M_lit 4 r_M_lit [] wc_M_lit := ⟨Or.inr ⟨rfl, rfl⟩, ww 898 (by rfl) (by rfl)⟩
abbrev b_M_litOf : ByteArray := prog_11_method_8_code
def y_M_litOf : MethodName := ⟨"ColourChartsModel", "litOf", "(III)I"⟩
abbrev r_M_litOf : Option FieldType := (Option.some Jvm.ClassFile.FieldType.int)
abbrev wc_M_litOf : Cond := Cond.code y_M_litOf b_M_litOf 6 r_M_litOf
set_option maxRecDepth 100000 in
theorem mw_M_litOf : rn_mw y_M_litOf b_M_litOf 6 r_M_litOf [] wc_M_litOf := ⟨Or.inr ⟨rfl, rfl⟩, ww 902 (by rfl) (by rfl)⟩
abbrev b_M_find : ByteArray := prog_11_method_11_code
def y_M_find : MethodName := ⟨"ColourChartsModel", "find", "()Z"⟩
abbrev r_M_find : Option FieldType := (Option.some Jvm.ClassFile.FieldType.boolean)
abbrev wc_M_find : Cond := Cond.code y_M_find b_M_find 6 r_M_find
set_option maxRecDepth 100000 in
theorem mw_M_find : rn_mw y_M_find b_M_find 6 r_M_find [] wc_M_find := ⟨Or.inr ⟨rfl, rfl⟩, ww 906 (by rfl) (by rfl)⟩
abbrev b_M_isDark : ByteArray := prog_11_method_10_code
def y_M_isDark : MethodName := ⟨"ColourChartsModel", "isDark", "(II)Z"⟩
abbrev r_M_isDark : Option FieldType := (Option.some Jvm.ClassFile.FieldType.boolean)
abbrev wc_M_isDark : Cond := Cond.code y_M_isDark b_M_isDark 4 r_M_isDark
set_option maxRecDepth 100000 in
theorem mw_M_isDark : rn_mw y_M_isDark b_M_isDark 4 r_M_isDark [] wc_M_isDark := ⟨Or.inr ⟨rfl, rfl⟩, ww 910 (by rfl) (by rfl)⟩
abbrev b_M_box : ByteArray := prog_11_method_12_code
def y_M_box : MethodName := ⟨"ColourChartsModel", "box", "(I)I"⟩
abbrev r_M_box : Option FieldType := (Option.some Jvm.ClassFile.FieldType.int)
abbrev wc_M_box : Cond := Cond.code y_M_box b_M_box 2 r_M_box
set_option maxRecDepth 100000 in
theorem mw_M_box : rn_mw y_M_box b_M_box 2 r_M_box [] wc_M_box := ⟨Or.inr ⟨rfl, rfl⟩, ww 914 (by rfl) (by rfl)⟩
abbrev b_M_grid : ByteArray := prog_11_method_13_code
def y_M_grid : MethodName := ⟨"ColourChartsModel", "grid", "(II)V"⟩
abbrev r_M_grid : Option FieldType := (Option.none : Option Jvm.ClassFile.FieldType)
abbrev wc_M_grid : Cond := Cond.code y_M_grid b_M_grid 3 r_M_grid
set_option maxRecDepth 100000 in
theorem mw_M_grid : rn_mw y_M_grid b_M_grid 3 r_M_grid [] wc_M_grid := ⟨Or.inr ⟨rfl, rfl⟩, ww 918 (by rfl) (by rfl)⟩
abbrev b_M_turn : ByteArray := prog_11_method_14_code
def y_M_turn : MethodName := ⟨"ColourChartsModel", "turn", "(I)I"⟩
abbrev r_M_turn : Option FieldType := (Option.some Jvm.ClassFile.FieldType.int)
abbrev wc_M_turn : Cond := Cond.code y_M_turn b_M_turn 3 r_M_turn
set_option maxRecDepth 100000 in
theorem mw_M_turn : rn_mw y_M_turn b_M_turn 3 r_M_turn [] wc_M_turn := ⟨Or.inr ⟨rfl, rfl⟩, ww 922 (by rfl) (by rfl)⟩
abbrev b_M_read : ByteArray := prog_11_method_19_code
def y_M_read : MethodName := ⟨"ColourChartsModel", "read", "(II)I"⟩
abbrev r_M_read : Option FieldType := (Option.some Jvm.ClassFile.FieldType.int)
abbrev wc_M_read : Cond := Cond.code y_M_read b_M_read 3 r_M_read
set_option maxRecDepth 100000 in
theorem mw_M_read : rn_mw y_M_read b_M_read 3 r_M_read [] wc_M_read := ⟨Or.inr ⟨rfl, rfl⟩, ww 926 (by rfl) (by rfl)⟩
abbrev b_M_isPatch : ByteArray := prog_11_method_18_code
def y_M_isPatch : MethodName := ⟨"ColourChartsModel", "isPatch", "(I)Z"⟩
abbrev r_M_isPatch : Option FieldType := (Option.some Jvm.ClassFile.FieldType.boolean)
abbrev wc_M_isPatch : Cond := Cond.code y_M_isPatch b_M_isPatch 2 r_M_isPatch
set_option maxRecDepth 100000 in
theorem mw_M_isPatch : rn_mw y_M_isPatch b_M_isPatch 2 r_M_isPatch [] wc_M_isPatch := ⟨Or.inr ⟨rfl, rfl⟩, ww 930 (by rfl) (by rfl)⟩
abbrev b_M_readOf : ByteArray := prog_11_method_17_code
def y_M_readOf : MethodName := ⟨"ColourChartsModel", "readOf", "(II)I"⟩
abbrev r_M_readOf : Option FieldType := (Option.some Jvm.ClassFile.FieldType.int)
abbrev wc_M_readOf : Cond := Cond.code y_M_readOf b_M_readOf 3 r_M_readOf
set_option maxRecDepth 100000 in
theorem mw_M_readOf : rn_mw y_M_readOf b_M_readOf 3 r_M_readOf [] wc_M_readOf := ⟨Or.inr ⟨rfl, rfl⟩, ww 934 (by rfl) (by rfl)⟩
abbrev b_M_gather : ByteArray := prog_11_method_16_code
def y_M_gather : MethodName := ⟨"ColourChartsModel", "gather", "(II)V"⟩
abbrev r_M_gather : Option FieldType := (Option.none : Option Jvm.ClassFile.FieldType)
abbrev wc_M_gather : Cond := Cond.code y_M_gather b_M_gather 9 r_M_gather
set_option maxRecDepth 100000 in
theorem mw_M_gather : rn_mw y_M_gather b_M_gather 9 r_M_gather [] wc_M_gather := ⟨Or.inr ⟨rfl, rfl⟩, ww 938 (by rfl) (by rfl)⟩
abbrev b_M_patchAt : ByteArray := prog_11_method_15_code
def y_M_patchAt : MethodName := ⟨"ColourChartsModel", "patchAt", "(II)I"⟩
abbrev r_M_patchAt : Option FieldType := (Option.some Jvm.ClassFile.FieldType.int)
abbrev wc_M_patchAt : Cond := Cond.code y_M_patchAt b_M_patchAt 5 r_M_patchAt
set_option maxRecDepth 100000 in
theorem mw_M_patchAt : rn_mw y_M_patchAt b_M_patchAt 5 r_M_patchAt [] wc_M_patchAt := ⟨Or.inr ⟨rfl, rfl⟩, ww 942 (by rfl) (by rfl)⟩
abbrev b_M_noise : ByteArray := prog_11_method_22_code
def y_M_noise : MethodName := ⟨"ColourChartsModel", "noise", "(II)J"⟩
abbrev r_M_noise : Option FieldType := (Option.some Jvm.ClassFile.FieldType.long)
abbrev wc_M_noise : Cond := Cond.code y_M_noise b_M_noise 9 r_M_noise
set_option maxRecDepth 100000 in
theorem mw_M_noise : rn_mw y_M_noise b_M_noise 9 r_M_noise [] wc_M_noise := ⟨Or.inr ⟨rfl, rfl⟩, ww 946 (by rfl) (by rfl)⟩
abbrev b_M_spread : ByteArray := prog_11_method_21_code
def y_M_spread : MethodName := ⟨"ColourChartsModel", "spread", "(I)J"⟩
abbrev r_M_spread : Option FieldType := (Option.some Jvm.ClassFile.FieldType.long)
abbrev wc_M_spread : Cond := Cond.code y_M_spread b_M_spread 2 r_M_spread
set_option maxRecDepth 100000 in
theorem mw_M_spread : rn_mw y_M_spread b_M_spread 2 r_M_spread [] wc_M_spread := ⟨Or.inr ⟨rfl, rfl⟩, ww 950 (by rfl) (by rfl)⟩
abbrev b_M_divisor : ByteArray := prog_11_method_20_code
def y_M_divisor : MethodName := ⟨"ColourChartsModel", "divisor", "(JJ)J"⟩
abbrev r_M_divisor : Option FieldType := (Option.some Jvm.ClassFile.FieldType.long)
abbrev wc_M_divisor : Cond := Cond.code y_M_divisor b_M_divisor 10 r_M_divisor
set_option maxRecDepth 100000 in
theorem mw_M_divisor : rn_mw y_M_divisor b_M_divisor 10 r_M_divisor [] wc_M_divisor := ⟨Or.inr ⟨rfl, rfl⟩, ww 953 (by rfl) (by rfl)⟩
abbrev b_M_target : ByteArray := prog_11_method_23_code
def y_M_target : MethodName := ⟨"ColourChartsModel", "target", "(IIII)V"⟩
abbrev r_M_target : Option FieldType := (Option.none : Option Jvm.ClassFile.FieldType)
abbrev wc_M_target : Cond := Cond.code y_M_target b_M_target 6 r_M_target
set_option maxRecDepth 100000 in
theorem mw_M_target : rn_mw y_M_target b_M_target 6 r_M_target [] wc_M_target := ⟨Or.inr ⟨rfl, rfl⟩, ww 957 (by rfl) (by rfl)⟩
abbrev b_M_neutral : ByteArray := prog_11_method_24_code
def y_M_neutral : MethodName := ⟨"ColourChartsModel", "neutral", "(I)I"⟩
abbrev r_M_neutral : Option FieldType := (Option.some Jvm.ClassFile.FieldType.int)
abbrev wc_M_neutral : Cond := Cond.code y_M_neutral b_M_neutral 4 r_M_neutral
set_option maxRecDepth 100000 in
theorem mw_M_neutral : rn_mw y_M_neutral b_M_neutral 4 r_M_neutral [] wc_M_neutral := ⟨Or.inr ⟨rfl, rfl⟩, ww 961 (by rfl) (by rfl)⟩
abbrev b_M_fit : ByteArray := prog_11_method_27_code
def y_M_fit : MethodName := ⟨"ColourChartsModel", "fit", "()I"⟩
abbrev r_M_fit : Option FieldType := (Option.some Jvm.ClassFile.FieldType.int)
abbrev wc_M_fit : Cond := Cond.code y_M_fit b_M_fit 3 r_M_fit
set_option maxRecDepth 100000 in
theorem mw_M_fit : rn_mw y_M_fit b_M_fit 3 r_M_fit [] wc_M_fit := ⟨Or.inr ⟨rfl, rfl⟩, ww 965 (by rfl) (by rfl)⟩
abbrev b_M_fitPart : ByteArray := prog_11_method_26_code
def y_M_fitPart : MethodName := ⟨"ColourChartsModel", "fitPart", "(I)V"⟩
abbrev r_M_fitPart : Option FieldType := (Option.none : Option Jvm.ClassFile.FieldType)
abbrev wc_M_fitPart : Cond := Cond.code y_M_fitPart b_M_fitPart 22 r_M_fitPart
set_option maxRecDepth 100000 in
theorem mw_M_fitPart : rn_mw y_M_fitPart b_M_fitPart 22 r_M_fitPart [] wc_M_fitPart := ⟨Or.inr ⟨rfl, rfl⟩, ww 969 (by rfl) (by rfl)⟩
abbrev b_M_keep : ByteArray := prog_11_method_25_code
def y_M_keep : MethodName := ⟨"ColourChartsModel", "keep", "(IJJJ)V"⟩
abbrev r_M_keep : Option FieldType := (Option.none : Option Jvm.ClassFile.FieldType)
abbrev wc_M_keep : Cond := Cond.code y_M_keep b_M_keep 10 r_M_keep
set_option maxRecDepth 100000 in
theorem mw_M_keep : rn_mw y_M_keep b_M_keep 10 r_M_keep [] wc_M_keep := ⟨Or.inr ⟨rfl, rfl⟩, ww 973 (by rfl) (by rfl)⟩
abbrev b_M_line : ByteArray := prog_11_method_28_code
def y_M_line : MethodName := ⟨"ColourChartsModel", "line", "(II)J"⟩
abbrev r_M_line : Option FieldType := (Option.some Jvm.ClassFile.FieldType.long)
abbrev wc_M_line : Cond := Cond.code y_M_line b_M_line 3 r_M_line
set_option maxRecDepth 100000 in
theorem mw_M_line : rn_mw y_M_line b_M_line 3 r_M_line [] wc_M_line := ⟨Or.inr ⟨rfl, rfl⟩, ww 977 (by rfl) (by rfl)⟩
abbrev b_M_colour : ByteArray := prog_11_method_30_code
def y_M_colour : MethodName := ⟨"ColourChartsModel", "colour", "(II)I"⟩
abbrev r_M_colour : Option FieldType := (Option.some Jvm.ClassFile.FieldType.int)
abbrev wc_M_colour : Cond := Cond.code y_M_colour b_M_colour 3 r_M_colour
set_option maxRecDepth 100000 in
theorem mw_M_colour : rn_mw y_M_colour b_M_colour 3 r_M_colour [] wc_M_colour := ⟨Or.inr ⟨rfl, rfl⟩, ww 981 (by rfl) (by rfl)⟩
abbrev b_M_colourOf : ByteArray := prog_11_method_29_code
def y_M_colourOf : MethodName := ⟨"ColourChartsModel", "colourOf", "(II)I"⟩
abbrev r_M_colourOf : Option FieldType := (Option.some Jvm.ClassFile.FieldType.int)
abbrev wc_M_colourOf : Cond := Cond.code y_M_colourOf b_M_colourOf 9 r_M_colourOf
set_option maxRecDepth 100000 in
theorem mw_M_colourOf : rn_mw y_M_colourOf b_M_colourOf 9 r_M_colourOf [] wc_M_colourOf := ⟨Or.inr ⟨rfl, rfl⟩, ww 985 (by rfl) (by rfl)⟩
abbrev b_M_difference : ByteArray := prog_11_method_32_code
def y_M_difference : MethodName := ⟨"ColourChartsModel", "difference", "(I)I"⟩
abbrev r_M_difference : Option FieldType := (Option.some Jvm.ClassFile.FieldType.int)
abbrev wc_M_difference : Cond := Cond.code y_M_difference b_M_difference 2 r_M_difference
set_option maxRecDepth 100000 in
theorem mw_M_difference : rn_mw y_M_difference b_M_difference 2 r_M_difference [] wc_M_difference := ⟨Or.inr ⟨rfl, rfl⟩, ww 991 (by rfl) (by rfl)⟩
abbrev b_M_differs : ByteArray := prog_11_method_31_code
def y_M_differs : MethodName := ⟨"ColourChartsModel", "differs", "(I)I"⟩
abbrev r_M_differs : Option FieldType := (Option.some Jvm.ClassFile.FieldType.int)
abbrev wc_M_differs : Cond := Cond.code y_M_differs b_M_differs 5 r_M_differs
set_option maxRecDepth 100000 in
theorem mw_M_differs : rn_mw y_M_differs b_M_differs 5 r_M_differs [] wc_M_differs := ⟨Or.inr ⟨rfl, rfl⟩, ww 995 (by rfl) (by rfl)⟩
abbrev b_M_unit : ByteArray := prog_11_method_33_code
def y_M_unit : MethodName := ⟨"ColourChartsModel", "unit", "(I)I"⟩
abbrev r_M_unit : Option FieldType := (Option.some Jvm.ClassFile.FieldType.int)
abbrev wc_M_unit : Cond := Cond.code y_M_unit b_M_unit 2 r_M_unit
set_option maxRecDepth 100000 in
theorem mw_M_unit : rn_mw y_M_unit b_M_unit 2 r_M_unit [] wc_M_unit := ⟨Or.inr ⟨rfl, rfl⟩, ww 999 (by rfl) (by rfl)⟩
abbrev b_M_rule : ByteArray := prog_11_method_34_code
def y_M_rule : MethodName := ⟨"ColourChartsModel", "rule", "()I"⟩
abbrev r_M_rule : Option FieldType := (Option.some Jvm.ClassFile.FieldType.int)
abbrev wc_M_rule : Cond := Cond.code y_M_rule b_M_rule 4 r_M_rule
set_option maxRecDepth 100000 in
theorem mw_M_rule : rn_mw y_M_rule b_M_rule 4 r_M_rule [] wc_M_rule := ⟨Or.inr ⟨rfl, rfl⟩, ww 1003 (by rfl) (by rfl)⟩
abbrev b_M_reject : ByteArray := prog_11_method_36_code
def y_M_reject : MethodName := ⟨"ColourChartsModel", "reject", "()I"⟩
abbrev r_M_reject : Option FieldType := (Option.some Jvm.ClassFile.FieldType.int)
abbrev wc_M_reject : Cond := Cond.code y_M_reject b_M_reject 3 r_M_reject
set_option maxRecDepth 100000 in
theorem mw_M_reject : rn_mw y_M_reject b_M_reject 3 r_M_reject [] wc_M_reject := ⟨Or.inr ⟨rfl, rfl⟩, ww 1007 (by rfl) (by rfl)⟩
abbrev b_M_measure : ByteArray := prog_11_method_35_code
def y_M_measure : MethodName := ⟨"ColourChartsModel", "measure", "(I)I"⟩
abbrev r_M_measure : Option FieldType := (Option.some Jvm.ClassFile.FieldType.int)
abbrev wc_M_measure : Cond := Cond.code y_M_measure b_M_measure 5 r_M_measure
set_option maxRecDepth 100000 in
theorem mw_M_measure : rn_mw y_M_measure b_M_measure 5 r_M_measure [] wc_M_measure := ⟨Or.inr ⟨rfl, rfl⟩, ww 1011 (by rfl) (by rfl)⟩
abbrev b_M_day : ByteArray := prog_11_method_37_code
def y_M_day : MethodName := ⟨"ColourChartsModel", "day", "(II)I"⟩
abbrev r_M_day : Option FieldType := (Option.some Jvm.ClassFile.FieldType.int)
abbrev wc_M_day : Cond := Cond.code y_M_day b_M_day 3 r_M_day
set_option maxRecDepth 100000 in
theorem mw_M_day : rn_mw y_M_day b_M_day 3 r_M_day [] wc_M_day := ⟨Or.inr ⟨rfl, rfl⟩, ww 1015 (by rfl) (by rfl)⟩
abbrev b_M_drift : ByteArray := prog_11_method_38_code
def y_M_drift : MethodName := ⟨"ColourChartsModel", "drift", "(I)J"⟩
abbrev r_M_drift : Option FieldType := (Option.some Jvm.ClassFile.FieldType.long)
abbrev wc_M_drift : Cond := Cond.code y_M_drift b_M_drift 12 r_M_drift
set_option maxRecDepth 100000 in
theorem mw_M_drift : rn_mw y_M_drift b_M_drift 12 r_M_drift [] wc_M_drift := ⟨Or.inr ⟨rfl, rfl⟩, ww 1020 (by rfl) (by rfl)⟩
abbrev b_M_count : ByteArray := prog_11_method_39_code
def y_M_count : MethodName := ⟨"ColourChartsModel", "count", "(I)I"⟩
abbrev r_M_count : Option FieldType := (Option.some Jvm.ClassFile.FieldType.int)
abbrev wc_M_count : Cond := Cond.code y_M_count b_M_count 4 r_M_count
set_option maxRecDepth 100000 in
theorem mw_M_count : rn_mw y_M_count b_M_count 4 r_M_count [] wc_M_count := ⟨Or.inr ⟨rfl, rfl⟩, ww 1024 (by rfl) (by rfl)⟩
theorem k_L_90 : rn_ci "ColourChartsLaw" 90 y_C_init 2 := ⟨Or.inl (ww 46 (by decide +kernel) (by decide +kernel)), ⟨⟨by decide, by decide⟩, by decide +kernel⟩, rfl, ww 47 (by decide +kernel) (by decide +kernel), ww 27 (by decide +kernel) (by decide +kernel)⟩
theorem k_C_9 : rn_ci "ColourCharts" 9 y_I_init 2 := ⟨Or.inl (ww 54 (by decide +kernel) (by decide +kernel)), ⟨⟨by decide, by decide⟩, by decide +kernel⟩, rfl, ww 55 (by decide +kernel) (by decide +kernel), ww 28 (by decide +kernel) (by decide +kernel)⟩
theorem k_I_11 : rn_cs "ColourCharts$Picture" 11 y_J_mini 2 := ⟨Or.inl (ww 58 (by decide +kernel) (by decide +kernel)), ⟨⟨by decide, by decide⟩, by decide +kernel⟩, ww 59 (by decide +kernel) (by decide +kernel), ww 29 (by decide +kernel) (by decide +kernel)⟩
theorem k_I_17 : rn_cs "ColourCharts$Picture" 17 y_J_maxi 2 := ⟨Or.inl (ww 61 (by decide +kernel) (by decide +kernel)), ⟨⟨by decide, by decide⟩, by decide +kernel⟩, ww 62 (by decide +kernel) (by decide +kernel), ww 29 (by decide +kernel) (by decide +kernel)⟩
theorem k_C_20 : rn_ci "ColourCharts" 20 y_F_init 0 := ⟨Or.inr ⟨_, List.mem_of_getElem? (i := 0) rfl⟩, ⟨⟨by decide, by decide⟩, by decide +kernel⟩, rfl, ww 85 (by decide +kernel) (by decide +kernel), ww 30 (by decide +kernel) (by decide +kernel)⟩
theorem k_C_27 : rn_ci "ColourCharts" 27 y_Y_init 0 := ⟨Or.inr ⟨_, List.mem_of_getElem? (i := 1) rfl⟩, ⟨⟨by decide, by decide⟩, by decide +kernel⟩, rfl, ww 112 (by decide +kernel) (by decide +kernel), ww 31 (by decide +kernel) (by decide +kernel)⟩
theorem k_C_34 : rn_ci "ColourCharts" 34 y_P_init 0 := ⟨Or.inr ⟨_, List.mem_of_getElem? (i := 2) rfl⟩, ⟨⟨by decide, by decide⟩, by decide +kernel⟩, rfl, ww 133 (by decide +kernel) (by decide +kernel), ww 32 (by decide +kernel) (by decide +kernel)⟩
theorem k_C_41 : rn_ci "ColourCharts" 41 y_T_init 0 := ⟨Or.inr ⟨_, List.mem_of_getElem? (i := 3) rfl⟩, ⟨⟨by decide, by decide⟩, by decide +kernel⟩, rfl, ww 152 (by decide +kernel) (by decide +kernel), ww 33 (by decide +kernel) (by decide +kernel)⟩
theorem k_C_48 : rn_ci "ColourCharts" 48 y_N_init 0 := ⟨Or.inr ⟨_, List.mem_of_getElem? (i := 4) rfl⟩, ⟨⟨by decide, by decide⟩, by decide +kernel⟩, rfl, ww 171 (by decide +kernel) (by decide +kernel), ww 34 (by decide +kernel) (by decide +kernel)⟩
theorem k_C_55 : rn_ci "ColourCharts" 55 y_S_init 0 := ⟨Or.inr ⟨_, List.mem_of_getElem? (i := 5) rfl⟩, ⟨⟨by decide, by decide⟩, by decide +kernel⟩, rfl, ww 191 (by decide +kernel) (by decide +kernel), ww 35 (by decide +kernel) (by decide +kernel)⟩
theorem k_C_62 : rn_ci "ColourCharts" 62 y_R_init 0 := ⟨Or.inr ⟨_, List.mem_of_getElem? (i := 6) rfl⟩, ⟨⟨by decide, by decide⟩, by decide +kernel⟩, rfl, ww 219 (by decide +kernel) (by decide +kernel), ww 36 (by decide +kernel) (by decide +kernel)⟩
theorem k_L_109 : rn_cv "ColourChartsLaw" 109 y_C_find 0 := ⟨Or.inl (ww 272 (by decide +kernel) (by decide +kernel)), ⟨⟨by decide, by decide⟩, by decide +kernel⟩, ww 273 (by decide +kernel) (by decide +kernel), ww 274 (by decide +kernel) (by decide +kernel), ww 27 (by decide +kernel) (by decide +kernel)⟩
theorem k_C_108 : rn_cv "ColourCharts" 108 y_F_lookIn 1 := ⟨Or.inl (ww 276 (by decide +kernel) (by decide +kernel)), ⟨⟨by decide, by decide⟩, by decide +kernel⟩, ww 277 (by decide +kernel) (by decide +kernel), ww 278 (by decide +kernel) (by decide +kernel), ww 30 (by decide +kernel) (by decide +kernel)⟩
theorem k_F_32 : rn_cv "ColourCharts$Frame" 32 y_I_isDark 2 := ⟨Or.inl (ww 280 (by decide +kernel) (by decide +kernel)), ⟨⟨by decide, by decide⟩, by decide +kernel⟩, ww 281 (by decide +kernel) (by decide +kernel), ww 282 (by decide +kernel) (by decide +kernel), ww 28 (by decide +kernel) (by decide +kernel)⟩
theorem k_F_36 : rn_cv "ColourCharts$Frame" 36 y_F_widenTo 2 := ⟨Or.inl (ww 284 (by decide +kernel) (by decide +kernel)), ⟨⟨by decide, by decide⟩, by decide +kernel⟩, ww 286 (by decide +kernel) (by decide +kernel), ww 0 (by decide +kernel) (by decide +kernel), ww 30 (by decide +kernel) (by decide +kernel)⟩
theorem k_F_48 : rn_cs "ColourCharts$Frame" 48 y_J_mini 2 := ⟨Or.inl (ww 288 (by decide +kernel) (by decide +kernel)), ⟨⟨by decide, by decide⟩, by decide +kernel⟩, ww 59 (by decide +kernel) (by decide +kernel), ww 29 (by decide +kernel) (by decide +kernel)⟩
theorem k_F_54 : rn_cs "ColourCharts$Frame" 54 y_J_maxi 2 := ⟨Or.inl (ww 289 (by decide +kernel) (by decide +kernel)), ⟨⟨by decide, by decide⟩, by decide +kernel⟩, ww 62 (by decide +kernel) (by decide +kernel), ww 29 (by decide +kernel) (by decide +kernel)⟩
theorem k_F_40 : rn_cv "ColourCharts$Frame" 40 y_F_borderIsDark 1 := ⟨Or.inl (ww 290 (by decide +kernel) (by decide +kernel)), ⟨⟨by decide, by decide⟩, by decide +kernel⟩, ww 292 (by decide +kernel) (by decide +kernel), ww 1 (by decide +kernel) (by decide +kernel), ww 30 (by decide +kernel) (by decide +kernel)⟩
theorem k_L_84 : rn_cs "ColourChartsLaw" 84 y_L_cell 2 := ⟨Or.inl (ww 294 (by decide +kernel) (by decide +kernel)), ⟨⟨by decide, by decide⟩, by decide +kernel⟩, ww 295 (by decide +kernel) (by decide +kernel), ww 26 (by decide +kernel) (by decide +kernel)⟩
theorem k_L_95 : rn_cs "ColourChartsLaw" 95 y_L_pixel 6 := ⟨Or.inl (ww 297 (by decide +kernel) (by decide +kernel)), ⟨⟨by decide, by decide⟩, by decide +kernel⟩, ww 298 (by decide +kernel) (by decide +kernel), ww 26 (by decide +kernel) (by decide +kernel)⟩
theorem k_L_7 : rn_cv "ColourChartsLaw" 7 y_C_pixel 4 := ⟨Or.inl (ww 302 (by decide +kernel) (by decide +kernel)), ⟨⟨by decide, by decide⟩, by decide +kernel⟩, ww 303 (by decide +kernel) (by decide +kernel), ww 304 (by decide +kernel) (by decide +kernel), ww 27 (by decide +kernel) (by decide +kernel)⟩
theorem k_C_70 : rn_cv "ColourCharts" 70 y_I_hasCell 2 := ⟨Or.inl (ww 306 (by decide +kernel) (by decide +kernel)), ⟨⟨by decide, by decide⟩, by decide +kernel⟩, ww 307 (by decide +kernel) (by decide +kernel), ww 308 (by decide +kernel) (by decide +kernel), ww 28 (by decide +kernel) (by decide +kernel)⟩
theorem k_C_74 : rn_cs "ColourCharts" 74 y_C_isPart 1 := ⟨Or.inl (ww 310 (by decide +kernel) (by decide +kernel)), ⟨⟨by decide, by decide⟩, by decide +kernel⟩, ww 311 (by decide +kernel) (by decide +kernel), ww 27 (by decide +kernel) (by decide +kernel)⟩
theorem k_C_85 : rn_cs "ColourCharts" 85 y_C_isPartValue 1 := ⟨Or.inl (ww 381 (by decide +kernel) (by decide +kernel)), ⟨⟨by decide, by decide⟩, by decide +kernel⟩, ww 382 (by decide +kernel) (by decide +kernel), ww 27 (by decide +kernel) (by decide +kernel)⟩
theorem k_C_93 : rn_cv "ColourCharts" 93 y_I_exchangePart 4 := ⟨Or.inl (ww 400 (by decide +kernel) (by decide +kernel)), ⟨⟨by decide, by decide⟩, by decide +kernel⟩, ww 401 (by decide +kernel) (by decide +kernel), ww 402 (by decide +kernel) (by decide +kernel), ww 28 (by decide +kernel) (by decide +kernel)⟩
theorem k_L_102 : rn_cs "ColourChartsLaw" 102 y_L_light 5 := ⟨Or.inl (ww 404 (by decide +kernel) (by decide +kernel)), ⟨⟨by decide, by decide⟩, by decide +kernel⟩, ww 405 (by decide +kernel) (by decide +kernel), ww 26 (by decide +kernel) (by decide +kernel)⟩
theorem k_L_17 : rn_cv "ColourChartsLaw" 17 y_C_light 3 := ⟨Or.inl (ww 407 (by decide +kernel) (by decide +kernel)), ⟨⟨by decide, by decide⟩, by decide +kernel⟩, ww 408 (by decide +kernel) (by decide +kernel), ww 409 (by decide +kernel) (by decide +kernel), ww 27 (by decide +kernel) (by decide +kernel)⟩
theorem k_C_101 : rn_cv "ColourCharts" 101 y_I_exchangeLight 3 := ⟨Or.inl (ww 413 (by decide +kernel) (by decide +kernel)), ⟨⟨by decide, by decide⟩, by decide +kernel⟩, ww 414 (by decide +kernel) (by decide +kernel), ww 415 (by decide +kernel) (by decide +kernel), ww 28 (by decide +kernel) (by decide +kernel)⟩
theorem k_L_106 : rn_cs "ColourChartsLaw" 106 y_L_lit 5 := ⟨Or.inl (ww 417 (by decide +kernel) (by decide +kernel)), ⟨⟨by decide, by decide⟩, by decide +kernel⟩, ww 418 (by decide +kernel) (by decide +kernel), ww 26 (by decide +kernel) (by decide +kernel)⟩
theorem k_L_21 : rn_cv "ColourChartsLaw" 21 y_C_lit 3 := ⟨Or.inl (ww 420 (by decide +kernel) (by decide +kernel)), ⟨⟨by decide, by decide⟩, by decide +kernel⟩, ww 421 (by decide +kernel) (by decide +kernel), ww 422 (by decide +kernel) (by decide +kernel), ww 27 (by decide +kernel) (by decide +kernel)⟩
theorem k_C_105 : rn_cv "ColourCharts" 105 y_I_litPart 3 := ⟨Or.inl (ww 424 (by decide +kernel) (by decide +kernel)), ⟨⟨by decide, by decide⟩, by decide +kernel⟩, ww 425 (by decide +kernel) (by decide +kernel), ww 426 (by decide +kernel) (by decide +kernel), ww 28 (by decide +kernel) (by decide +kernel)⟩
theorem k_L_114 : rn_cs "ColourChartsLaw" 114 y_L_box 3 := ⟨Or.inl (ww 428 (by decide +kernel) (by decide +kernel)), ⟨⟨by decide, by decide⟩, by decide +kernel⟩, ww 429 (by decide +kernel) (by decide +kernel), ww 26 (by decide +kernel) (by decide +kernel)⟩
theorem k_L_24 : rn_cv "ColourChartsLaw" 24 y_C_box 1 := ⟨Or.inl (ww 432 (by decide +kernel) (by decide +kernel)), ⟨⟨by decide, by decide⟩, by decide +kernel⟩, ww 433 (by decide +kernel) (by decide +kernel), ww 434 (by decide +kernel) (by decide +kernel), ww 27 (by decide +kernel) (by decide +kernel)⟩
theorem k_C_123 : rn_cv "ColourCharts" 123 y_F_side 1 := ⟨Or.inl (ww 453 (by decide +kernel) (by decide +kernel)), ⟨⟨by decide, by decide⟩, by decide +kernel⟩, ww 454 (by decide +kernel) (by decide +kernel), ww 455 (by decide +kernel) (by decide +kernel), ww 30 (by decide +kernel) (by decide +kernel)⟩
theorem k_L_118 : rn_cs "ColourChartsLaw" 118 y_L_grid 3 := ⟨Or.inl (ww 457 (by decide +kernel) (by decide +kernel)), ⟨⟨by decide, by decide⟩, by decide +kernel⟩, ww 458 (by decide +kernel) (by decide +kernel), ww 26 (by decide +kernel) (by decide +kernel)⟩
theorem k_L_30 : rn_cv "ColourChartsLaw" 30 y_C_grid 2 := ⟨Or.inl (ww 460 (by decide +kernel) (by decide +kernel)), ⟨⟨by decide, by decide⟩, by decide +kernel⟩, ww 461 (by decide +kernel) (by decide +kernel), ww 462 (by decide +kernel) (by decide +kernel), ww 27 (by decide +kernel) (by decide +kernel)⟩
theorem k_C_127 : rn_cs "ColourCharts" 127 y_C_isGridSide 1 := ⟨Or.inl (ww 464 (by decide +kernel) (by decide +kernel)), ⟨⟨by decide, by decide⟩, by decide +kernel⟩, ww 465 (by decide +kernel) (by decide +kernel), ww 27 (by decide +kernel) (by decide +kernel)⟩
theorem k_L_122 : rn_cs "ColourChartsLaw" 122 y_L_turn 3 := ⟨Or.inl (ww 468 (by decide +kernel) (by decide +kernel)), ⟨⟨by decide, by decide⟩, by decide +kernel⟩, ww 469 (by decide +kernel) (by decide +kernel), ww 26 (by decide +kernel) (by decide +kernel)⟩
theorem k_L_34 : rn_cv "ColourChartsLaw" 34 y_C_turn 1 := ⟨Or.inl (ww 471 (by decide +kernel) (by decide +kernel)), ⟨⟨by decide, by decide⟩, by decide +kernel⟩, ww 472 (by decide +kernel) (by decide +kernel), ww 473 (by decide +kernel) (by decide +kernel), ww 27 (by decide +kernel) (by decide +kernel)⟩
theorem k_L_125 : rn_cs "ColourChartsLaw" 125 y_L_read 4 := ⟨Or.inl (ww 476 (by decide +kernel) (by decide +kernel)), ⟨⟨by decide, by decide⟩, by decide +kernel⟩, ww 477 (by decide +kernel) (by decide +kernel), ww 26 (by decide +kernel) (by decide +kernel)⟩
theorem k_L_37 : rn_cv "ColourChartsLaw" 37 y_C_read 2 := ⟨Or.inl (ww 479 (by decide +kernel) (by decide +kernel)), ⟨⟨by decide, by decide⟩, by decide +kernel⟩, ww 480 (by decide +kernel) (by decide +kernel), ww 481 (by decide +kernel) (by decide +kernel), ww 27 (by decide +kernel) (by decide +kernel)⟩
theorem k_C_144 : rn_cv "ColourCharts" 144 y_Y_hasPatch 1 := ⟨Or.inl (ww 483 (by decide +kernel) (by decide +kernel)), ⟨⟨by decide, by decide⟩, by decide +kernel⟩, ww 484 (by decide +kernel) (by decide +kernel), ww 485 (by decide +kernel) (by decide +kernel), ww 31 (by decide +kernel) (by decide +kernel)⟩
theorem k_Y_19 : rn_cv "ColourCharts$Layout" 19 y_Y_patches 0 := ⟨Or.inl (ww 487 (by decide +kernel) (by decide +kernel)), ⟨⟨by decide, by decide⟩, by decide +kernel⟩, ww 488 (by decide +kernel) (by decide +kernel), ww 489 (by decide +kernel) (by decide +kernel), ww 31 (by decide +kernel) (by decide +kernel)⟩
theorem k_C_149 : rn_cv "ColourCharts" 149 y_C_partOfPatch 2 := ⟨Or.inl (ww 492 (by decide +kernel) (by decide +kernel)), ⟨⟨by decide, by decide⟩, by decide +kernel⟩, ww 494 (by decide +kernel) (by decide +kernel), ww 3 (by decide +kernel) (by decide +kernel), ww 27 (by decide +kernel) (by decide +kernel)⟩
theorem k_C_158 : rn_cv "ColourCharts" 158 y_P_aim 3 := ⟨Or.inl (ww 496 (by decide +kernel) (by decide +kernel)), ⟨⟨by decide, by decide⟩, by decide +kernel⟩, ww 497 (by decide +kernel) (by decide +kernel), ww 498 (by decide +kernel) (by decide +kernel), ww 32 (by decide +kernel) (by decide +kernel)⟩
theorem k_P_9 : rn_cv "ColourCharts$Patch" 9 y_Y_columnOf 1 := ⟨Or.inl (ww 500 (by decide +kernel) (by decide +kernel)), ⟨⟨by decide, by decide⟩, by decide +kernel⟩, ww 501 (by decide +kernel) (by decide +kernel), ww 502 (by decide +kernel) (by decide +kernel), ww 31 (by decide +kernel) (by decide +kernel)⟩
theorem k_P_15 : rn_cv "ColourCharts$Patch" 15 y_Y_rowOf 1 := ⟨Or.inl (ww 504 (by decide +kernel) (by decide +kernel)), ⟨⟨by decide, by decide⟩, by decide +kernel⟩, ww 505 (by decide +kernel) (by decide +kernel), ww 506 (by decide +kernel) (by decide +kernel), ww 31 (by decide +kernel) (by decide +kernel)⟩
theorem k_P_36 : rn_cs "ColourCharts$Patch" 36 y_P_firstOf 3 := ⟨Or.inl (ww 508 (by decide +kernel) (by decide +kernel)), ⟨⟨by decide, by decide⟩, by decide +kernel⟩, ww 509 (by decide +kernel) (by decide +kernel), ww 32 (by decide +kernel) (by decide +kernel)⟩
theorem k_C_293 : rn_cv "ColourCharts" 293 y_P_mean 2 := ⟨Or.inl (ww 511 (by decide +kernel) (by decide +kernel)), ⟨⟨by decide, by decide⟩, by decide +kernel⟩, ww 512 (by decide +kernel) (by decide +kernel), ww 513 (by decide +kernel) (by decide +kernel), ww 32 (by decide +kernel) (by decide +kernel)⟩
theorem k_P_57 : rn_cv "ColourCharts$Patch" 57 y_I_litPart 3 := ⟨Or.inl (ww 515 (by decide +kernel) (by decide +kernel)), ⟨⟨by decide, by decide⟩, by decide +kernel⟩, ww 425 (by decide +kernel) (by decide +kernel), ww 426 (by decide +kernel) (by decide +kernel), ww 28 (by decide +kernel) (by decide +kernel)⟩
theorem k_P_53 : rn_cv "ColourCharts$Patch" 53 y_P_cells 0 := ⟨Or.inl (ww 516 (by decide +kernel) (by decide +kernel)), ⟨⟨by decide, by decide⟩, by decide +kernel⟩, ww 518 (by decide +kernel) (by decide +kernel), ww 4 (by decide +kernel) (by decide +kernel), ww 32 (by decide +kernel) (by decide +kernel)⟩
theorem k_P_62 : rn_cs "ColourCharts$Patch" 62 y_C_nearest 2 := ⟨Or.inr ⟨_, List.mem_of_getElem? (i := 7) rfl⟩, ⟨⟨by decide, by decide⟩, by decide +kernel⟩, ww 521 (by decide +kernel) (by decide +kernel), ww 27 (by decide +kernel) (by decide +kernel)⟩
theorem k_C_325 : rn_cs "ColourCharts" 325 y_J_floorDivl 2 := ⟨Or.inl (ww 524 (by decide +kernel) (by decide +kernel)), ⟨⟨by decide, by decide⟩, by decide +kernel⟩, ww 525 (by decide +kernel) (by decide +kernel), ww 29 (by decide +kernel) (by decide +kernel)⟩
theorem k_L_129 : rn_cs "ColourChartsLaw" 129 y_L_noise 4 := ⟨Or.inl (ww 527 (by decide +kernel) (by decide +kernel)), ⟨⟨by decide, by decide⟩, by decide +kernel⟩, ww 528 (by decide +kernel) (by decide +kernel), ww 26 (by decide +kernel) (by decide +kernel)⟩
theorem k_L_41 : rn_cv "ColourChartsLaw" 41 y_C_noise 2 := ⟨Or.inl (ww 530 (by decide +kernel) (by decide +kernel)), ⟨⟨by decide, by decide⟩, by decide +kernel⟩, ww 531 (by decide +kernel) (by decide +kernel), ww 532 (by decide +kernel) (by decide +kernel), ww 27 (by decide +kernel) (by decide +kernel)⟩
theorem k_C_153 : rn_cs "ColourCharts" 153 y_C_isHalfOfFraction 1 := ⟨Or.inl (ww 534 (by decide +kernel) (by decide +kernel)), ⟨⟨by decide, by decide⟩, by decide +kernel⟩, ww 535 (by decide +kernel) (by decide +kernel), ww 27 (by decide +kernel) (by decide +kernel)⟩
theorem k_C_162 : rn_cv "ColourCharts" 162 y_P_spread 1 := ⟨Or.inl (ww 538 (by decide +kernel) (by decide +kernel)), ⟨⟨by decide, by decide⟩, by decide +kernel⟩, ww 539 (by decide +kernel) (by decide +kernel), ww 540 (by decide +kernel) (by decide +kernel), ww 32 (by decide +kernel) (by decide +kernel)⟩
theorem k_C_166 : rn_cv "ColourCharts" 166 y_P_cellsSquared 0 := ⟨Or.inl (ww 542 (by decide +kernel) (by decide +kernel)), ⟨⟨by decide, by decide⟩, by decide +kernel⟩, ww 543 (by decide +kernel) (by decide +kernel), ww 544 (by decide +kernel) (by decide +kernel), ww 32 (by decide +kernel) (by decide +kernel)⟩
theorem k_C_170 : rn_cs "ColourCharts" 170 y_C_lessened 3 := ⟨Or.inl (ww 546 (by decide +kernel) (by decide +kernel)), ⟨⟨by decide, by decide⟩, by decide +kernel⟩, ww 547 (by decide +kernel) (by decide +kernel), ww 27 (by decide +kernel) (by decide +kernel)⟩
theorem k_C_328 : rn_cs "ColourCharts" 328 y_C_commonDivisor 2 := ⟨Or.inl (ww 549 (by decide +kernel) (by decide +kernel)), ⟨⟨by decide, by decide⟩, by decide +kernel⟩, ww 550 (by decide +kernel) (by decide +kernel), ww 27 (by decide +kernel) (by decide +kernel)⟩
theorem k_C_331 : rn_cs "ColourCharts" 331 y_J_absl 1 := ⟨Or.inl (ww 552 (by decide +kernel) (by decide +kernel)), ⟨⟨by decide, by decide⟩, by decide +kernel⟩, ww 553 (by decide +kernel) (by decide +kernel), ww 29 (by decide +kernel) (by decide +kernel)⟩
theorem k_L_132 : rn_cs "ColourChartsLaw" 132 y_L_target 5 := ⟨Or.inl (ww 555 (by decide +kernel) (by decide +kernel)), ⟨⟨by decide, by decide⟩, by decide +kernel⟩, ww 556 (by decide +kernel) (by decide +kernel), ww 26 (by decide +kernel) (by decide +kernel)⟩
theorem k_L_45 : rn_cv "ColourChartsLaw" 45 y_C_target 4 := ⟨Or.inl (ww 558 (by decide +kernel) (by decide +kernel)), ⟨⟨by decide, by decide⟩, by decide +kernel⟩, ww 559 (by decide +kernel) (by decide +kernel), ww 560 (by decide +kernel) (by decide +kernel), ww 27 (by decide +kernel) (by decide +kernel)⟩
theorem k_C_174 : rn_cs "ColourCharts" 174 y_C_isTargetPatch 1 := ⟨Or.inl (ww 562 (by decide +kernel) (by decide +kernel)), ⟨⟨by decide, by decide⟩, by decide +kernel⟩, ww 563 (by decide +kernel) (by decide +kernel), ww 27 (by decide +kernel) (by decide +kernel)⟩
theorem k_C_179 : rn_cv "ColourCharts" 179 y_T_drop 1 := ⟨Or.inl (ww 566 (by decide +kernel) (by decide +kernel)), ⟨⟨by decide, by decide⟩, by decide +kernel⟩, ww 567 (by decide +kernel) (by decide +kernel), ww 568 (by decide +kernel) (by decide +kernel), ww 33 (by decide +kernel) (by decide +kernel)⟩
theorem k_C_185 : rn_cv "ColourCharts" 185 y_T_keep 4 := ⟨Or.inl (ww 571 (by decide +kernel) (by decide +kernel)), ⟨⟨by decide, by decide⟩, by decide +kernel⟩, ww 572 (by decide +kernel) (by decide +kernel), ww 573 (by decide +kernel) (by decide +kernel), ww 33 (by decide +kernel) (by decide +kernel)⟩
theorem k_L_136 : rn_cs "ColourChartsLaw" 136 y_L_neutral 3 := ⟨Or.inl (ww 575 (by decide +kernel) (by decide +kernel)), ⟨⟨by decide, by decide⟩, by decide +kernel⟩, ww 576 (by decide +kernel) (by decide +kernel), ww 26 (by decide +kernel) (by decide +kernel)⟩
theorem k_L_49 : rn_cv "ColourChartsLaw" 49 y_C_neutral 1 := ⟨Or.inl (ww 578 (by decide +kernel) (by decide +kernel)), ⟨⟨by decide, by decide⟩, by decide +kernel⟩, ww 579 (by decide +kernel) (by decide +kernel), ww 580 (by decide +kernel) (by decide +kernel), ww 27 (by decide +kernel) (by decide +kernel)⟩
theorem k_L_139 : rn_cs "ColourChartsLaw" 139 y_L_fit 2 := ⟨Or.inl (ww 583 (by decide +kernel) (by decide +kernel)), ⟨⟨by decide, by decide⟩, by decide +kernel⟩, ww 584 (by decide +kernel) (by decide +kernel), ww 26 (by decide +kernel) (by decide +kernel)⟩
theorem k_L_52 : rn_cv "ColourChartsLaw" 52 y_C_fit 0 := ⟨Or.inl (ww 586 (by decide +kernel) (by decide +kernel)), ⟨⟨by decide, by decide⟩, by decide +kernel⟩, ww 587 (by decide +kernel) (by decide +kernel), ww 588 (by decide +kernel) (by decide +kernel), ww 27 (by decide +kernel) (by decide +kernel)⟩
theorem k_C_198 : rn_cv "ColourCharts" 198 y_Y_patches 0 := ⟨Or.inl (ww 590 (by decide +kernel) (by decide +kernel)), ⟨⟨by decide, by decide⟩, by decide +kernel⟩, ww 488 (by decide +kernel) (by decide +kernel), ww 489 (by decide +kernel) (by decide +kernel), ww 31 (by decide +kernel) (by decide +kernel)⟩
theorem k_C_202 : rn_cv "ColourCharts" 202 y_T_countBelow 1 := ⟨Or.inl (ww 591 (by decide +kernel) (by decide +kernel)), ⟨⟨by decide, by decide⟩, by decide +kernel⟩, ww 592 (by decide +kernel) (by decide +kernel), ww 593 (by decide +kernel) (by decide +kernel), ww 33 (by decide +kernel) (by decide +kernel)⟩
theorem k_C_205 : rn_cv "ColourCharts" 205 y_C_fitPart 1 := ⟨Or.inl (ww 595 (by decide +kernel) (by decide +kernel)), ⟨⟨by decide, by decide⟩, by decide +kernel⟩, ww 597 (by decide +kernel) (by decide +kernel), ww 5 (by decide +kernel) (by decide +kernel), ww 27 (by decide +kernel) (by decide +kernel)⟩
theorem k_C_297 : rn_cv "ColourCharts" 297 y_T_partOf 2 := ⟨Or.inl (ww 599 (by decide +kernel) (by decide +kernel)), ⟨⟨by decide, by decide⟩, by decide +kernel⟩, ww 600 (by decide +kernel) (by decide +kernel), ww 601 (by decide +kernel) (by decide +kernel), ww 33 (by decide +kernel) (by decide +kernel)⟩
theorem k_C_300 : rn_cv "ColourCharts" 300 y_S_clear 0 := ⟨Or.inl (ww 603 (by decide +kernel) (by decide +kernel)), ⟨⟨by decide, by decide⟩, by decide +kernel⟩, ww 604 (by decide +kernel) (by decide +kernel), ww 605 (by decide +kernel) (by decide +kernel), ww 35 (by decide +kernel) (by decide +kernel)⟩
theorem k_C_267 : rn_cv "ColourCharts" 267 y_S_add 2 := ⟨Or.inl (ww 607 (by decide +kernel) (by decide +kernel)), ⟨⟨by decide, by decide⟩, by decide +kernel⟩, ww 608 (by decide +kernel) (by decide +kernel), ww 609 (by decide +kernel) (by decide +kernel), ww 35 (by decide +kernel) (by decide +kernel)⟩
theorem k_C_303 : rn_cv "ColourCharts" 303 y_N_hold 4 := ⟨Or.inl (ww 611 (by decide +kernel) (by decide +kernel)), ⟨⟨by decide, by decide⟩, by decide +kernel⟩, ww 612 (by decide +kernel) (by decide +kernel), ww 613 (by decide +kernel) (by decide +kernel), ww 34 (by decide +kernel) (by decide +kernel)⟩
theorem k_N_35 : rn_cv "ColourCharts$Lines" 35 y_N_keep 4 := ⟨Or.inl (ww 615 (by decide +kernel) (by decide +kernel)), ⟨⟨by decide, by decide⟩, by decide +kernel⟩, ww 617 (by decide +kernel) (by decide +kernel), ww 6 (by decide +kernel) (by decide +kernel), ww 34 (by decide +kernel) (by decide +kernel)⟩
theorem k_N_51 : rn_cs "ColourCharts$Lines" 51 y_C_commonDivisor 2 := ⟨Or.inr ⟨_, List.mem_of_getElem? (i := 8) rfl⟩, ⟨⟨by decide, by decide⟩, by decide +kernel⟩, ww 550 (by decide +kernel) (by decide +kernel), ww 27 (by decide +kernel) (by decide +kernel)⟩
theorem k_C_307 : rn_cv "ColourCharts" 307 y_N_fitFreely 2 := ⟨Or.inl (ww 620 (by decide +kernel) (by decide +kernel)), ⟨⟨by decide, by decide⟩, by decide +kernel⟩, ww 621 (by decide +kernel) (by decide +kernel), ww 622 (by decide +kernel) (by decide +kernel), ww 34 (by decide +kernel) (by decide +kernel)⟩
theorem k_N_21 : rn_cv "ColourCharts$Lines" 21 y_S_freeBelow 0 := ⟨Or.inl (ww 624 (by decide +kernel) (by decide +kernel)), ⟨⟨by decide, by decide⟩, by decide +kernel⟩, ww 625 (by decide +kernel) (by decide +kernel), ww 626 (by decide +kernel) (by decide +kernel), ww 35 (by decide +kernel) (by decide +kernel)⟩
theorem k_N_39 : rn_cv "ColourCharts$Lines" 39 y_S_freeAbove 0 := ⟨Or.inl (ww 628 (by decide +kernel) (by decide +kernel)), ⟨⟨by decide, by decide⟩, by decide +kernel⟩, ww 629 (by decide +kernel) (by decide +kernel), ww 630 (by decide +kernel) (by decide +kernel), ww 35 (by decide +kernel) (by decide +kernel)⟩
theorem k_L_143 : rn_cs "ColourChartsLaw" 143 y_L_line 4 := ⟨Or.inl (ww 632 (by decide +kernel) (by decide +kernel)), ⟨⟨by decide, by decide⟩, by decide +kernel⟩, ww 633 (by decide +kernel) (by decide +kernel), ww 26 (by decide +kernel) (by decide +kernel)⟩
theorem k_L_56 : rn_cv "ColourChartsLaw" 56 y_C_line 2 := ⟨Or.inl (ww 635 (by decide +kernel) (by decide +kernel)), ⟨⟨by decide, by decide⟩, by decide +kernel⟩, ww 636 (by decide +kernel) (by decide +kernel), ww 637 (by decide +kernel) (by decide +kernel), ww 27 (by decide +kernel) (by decide +kernel)⟩
theorem k_C_215 : rn_cv "ColourCharts" 215 y_N_number 2 := ⟨Or.inl (ww 641 (by decide +kernel) (by decide +kernel)), ⟨⟨by decide, by decide⟩, by decide +kernel⟩, ww 642 (by decide +kernel) (by decide +kernel), ww 643 (by decide +kernel) (by decide +kernel), ww 34 (by decide +kernel) (by decide +kernel)⟩
theorem k_L_146 : rn_cs "ColourChartsLaw" 146 y_L_colour 4 := ⟨Or.inl (ww 645 (by decide +kernel) (by decide +kernel)), ⟨⟨by decide, by decide⟩, by decide +kernel⟩, ww 646 (by decide +kernel) (by decide +kernel), ww 26 (by decide +kernel) (by decide +kernel)⟩
theorem k_L_59 : rn_cv "ColourChartsLaw" 59 y_C_colour 2 := ⟨Or.inl (ww 648 (by decide +kernel) (by decide +kernel)), ⟨⟨by decide, by decide⟩, by decide +kernel⟩, ww 649 (by decide +kernel) (by decide +kernel), ww 650 (by decide +kernel) (by decide +kernel), ww 27 (by decide +kernel) (by decide +kernel)⟩
theorem k_C_221 : rn_cv "ColourCharts" 221 y_N_partFrom 2 := ⟨Or.inl (ww 653 (by decide +kernel) (by decide +kernel)), ⟨⟨by decide, by decide⟩, by decide +kernel⟩, ww 654 (by decide +kernel) (by decide +kernel), ww 655 (by decide +kernel) (by decide +kernel), ww 34 (by decide +kernel) (by decide +kernel)⟩
theorem k_N_55 : rn_cs "ColourCharts$Lines" 55 y_C_nearest 2 := ⟨Or.inr ⟨_, List.mem_of_getElem? (i := 9) rfl⟩, ⟨⟨by decide, by decide⟩, by decide +kernel⟩, ww 521 (by decide +kernel) (by decide +kernel), ww 27 (by decide +kernel) (by decide +kernel)⟩
theorem k_N_60 : rn_cs "ColourCharts$Lines" 60 y_J_minl 2 := ⟨Or.inl (ww 659 (by decide +kernel) (by decide +kernel)), ⟨⟨by decide, by decide⟩, by decide +kernel⟩, ww 660 (by decide +kernel) (by decide +kernel), ww 29 (by decide +kernel) (by decide +kernel)⟩
theorem k_N_65 : rn_cs "ColourCharts$Lines" 65 y_J_maxl 2 := ⟨Or.inl (ww 662 (by decide +kernel) (by decide +kernel)), ⟨⟨by decide, by decide⟩, by decide +kernel⟩, ww 663 (by decide +kernel) (by decide +kernel), ww 29 (by decide +kernel) (by decide +kernel)⟩
theorem k_L_149 : rn_cs "ColourChartsLaw" 149 y_L_difference 3 := ⟨Or.inl (ww 665 (by decide +kernel) (by decide +kernel)), ⟨⟨by decide, by decide⟩, by decide +kernel⟩, ww 666 (by decide +kernel) (by decide +kernel), ww 26 (by decide +kernel) (by decide +kernel)⟩
theorem k_L_62 : rn_cv "ColourChartsLaw" 62 y_C_difference 1 := ⟨Or.inl (ww 668 (by decide +kernel) (by decide +kernel)), ⟨⟨by decide, by decide⟩, by decide +kernel⟩, ww 669 (by decide +kernel) (by decide +kernel), ww 670 (by decide +kernel) (by decide +kernel), ww 27 (by decide +kernel) (by decide +kernel)⟩
theorem k_C_226 : rn_cv "ColourCharts" 226 y_C_differenceOrNone 1 := ⟨Or.inl (ww 673 (by decide +kernel) (by decide +kernel)), ⟨⟨by decide, by decide⟩, by decide +kernel⟩, ww 675 (by decide +kernel) (by decide +kernel), ww 7 (by decide +kernel) (by decide +kernel), ww 27 (by decide +kernel) (by decide +kernel)⟩
theorem k_L_152 : rn_cs "ColourChartsLaw" 152 y_L_unit 3 := ⟨Or.inl (ww 679 (by decide +kernel) (by decide +kernel)), ⟨⟨by decide, by decide⟩, by decide +kernel⟩, ww 680 (by decide +kernel) (by decide +kernel), ww 26 (by decide +kernel) (by decide +kernel)⟩
theorem k_L_65 : rn_cv "ColourChartsLaw" 65 y_C_unit 1 := ⟨Or.inl (ww 682 (by decide +kernel) (by decide +kernel)), ⟨⟨by decide, by decide⟩, by decide +kernel⟩, ww 683 (by decide +kernel) (by decide +kernel), ww 684 (by decide +kernel) (by decide +kernel), ww 27 (by decide +kernel) (by decide +kernel)⟩
theorem k_C_231 : rn_cv "ColourCharts" 231 y_R_textIsFull 0 := ⟨Or.inl (ww 687 (by decide +kernel) (by decide +kernel)), ⟨⟨by decide, by decide⟩, by decide +kernel⟩, ww 688 (by decide +kernel) (by decide +kernel), ww 689 (by decide +kernel) (by decide +kernel), ww 36 (by decide +kernel) (by decide +kernel)⟩
theorem k_C_237 : rn_cv "ColourCharts" 237 y_R_append 1 := ⟨Or.inl (ww 692 (by decide +kernel) (by decide +kernel)), ⟨⟨by decide, by decide⟩, by decide +kernel⟩, ww 693 (by decide +kernel) (by decide +kernel), ww 694 (by decide +kernel) (by decide +kernel), ww 36 (by decide +kernel) (by decide +kernel)⟩
theorem k_L_155 : rn_cs "ColourChartsLaw" 155 y_L_rule 2 := ⟨Or.inl (ww 696 (by decide +kernel) (by decide +kernel)), ⟨⟨by decide, by decide⟩, by decide +kernel⟩, ww 697 (by decide +kernel) (by decide +kernel), ww 26 (by decide +kernel) (by decide +kernel)⟩
theorem k_L_68 : rn_cv "ColourChartsLaw" 68 y_C_rule 0 := ⟨Or.inl (ww 699 (by decide +kernel) (by decide +kernel)), ⟨⟨by decide, by decide⟩, by decide +kernel⟩, ww 700 (by decide +kernel) (by decide +kernel), ww 701 (by decide +kernel) (by decide +kernel), ww 27 (by decide +kernel) (by decide +kernel)⟩
theorem k_C_241 : rn_cv "ColourCharts" 241 y_R_areFull 0 := ⟨Or.inl (ww 703 (by decide +kernel) (by decide +kernel)), ⟨⟨by decide, by decide⟩, by decide +kernel⟩, ww 704 (by decide +kernel) (by decide +kernel), ww 705 (by decide +kernel) (by decide +kernel), ww 36 (by decide +kernel) (by decide +kernel)⟩
theorem k_C_246 : rn_cv "ColourCharts" 246 y_R_takeText 0 := ⟨Or.inl (ww 708 (by decide +kernel) (by decide +kernel)), ⟨⟨by decide, by decide⟩, by decide +kernel⟩, ww 709 (by decide +kernel) (by decide +kernel), ww 710 (by decide +kernel) (by decide +kernel), ww 36 (by decide +kernel) (by decide +kernel)⟩
theorem k_R_32 : rn_cv "ColourCharts$Rules" 32 y_R_textIsRule 0 := ⟨Or.inl (ww 712 (by decide +kernel) (by decide +kernel)), ⟨⟨by decide, by decide⟩, by decide +kernel⟩, ww 714 (by decide +kernel) (by decide +kernel), ww 8 (by decide +kernel) (by decide +kernel), ww 36 (by decide +kernel) (by decide +kernel)⟩
theorem k_R_36 : rn_cv "ColourCharts$Rules" 36 y_R_numberInText 0 := ⟨Or.inl (ww 716 (by decide +kernel) (by decide +kernel)), ⟨⟨by decide, by decide⟩, by decide +kernel⟩, ww 718 (by decide +kernel) (by decide +kernel), ww 9 (by decide +kernel) (by decide +kernel), ww 36 (by decide +kernel) (by decide +kernel)⟩
theorem k_L_158 : rn_cs "ColourChartsLaw" 158 y_L_reject 2 := ⟨Or.inl (ww 720 (by decide +kernel) (by decide +kernel)), ⟨⟨by decide, by decide⟩, by decide +kernel⟩, ww 721 (by decide +kernel) (by decide +kernel), ww 26 (by decide +kernel) (by decide +kernel)⟩
theorem k_L_71 : rn_cv "ColourChartsLaw" 71 y_C_reject 0 := ⟨Or.inl (ww 723 (by decide +kernel) (by decide +kernel)), ⟨⟨by decide, by decide⟩, by decide +kernel⟩, ww 724 (by decide +kernel) (by decide +kernel), ww 725 (by decide +kernel) (by decide +kernel), ww 27 (by decide +kernel) (by decide +kernel)⟩
theorem k_C_249 : rn_cv "ColourCharts" 249 y_C_greatestDifference 0 := ⟨Or.inl (ww 727 (by decide +kernel) (by decide +kernel)), ⟨⟨by decide, by decide⟩, by decide +kernel⟩, ww 729 (by decide +kernel) (by decide +kernel), ww 10 (by decide +kernel) (by decide +kernel), ww 27 (by decide +kernel) (by decide +kernel)⟩
theorem k_C_315 : rn_cs "ColourCharts" 315 y_J_maxi 2 := ⟨Or.inl (ww 731 (by decide +kernel) (by decide +kernel)), ⟨⟨by decide, by decide⟩, by decide +kernel⟩, ww 62 (by decide +kernel) (by decide +kernel), ww 29 (by decide +kernel) (by decide +kernel)⟩
theorem k_C_252 : rn_cv "ColourCharts" 252 y_C_greatestNoise 0 := ⟨Or.inl (ww 732 (by decide +kernel) (by decide +kernel)), ⟨⟨by decide, by decide⟩, by decide +kernel⟩, ww 734 (by decide +kernel) (by decide +kernel), ww 11 (by decide +kernel) (by decide +kernel), ww 27 (by decide +kernel) (by decide +kernel)⟩
theorem k_C_320 : rn_cs "ColourCharts" 320 y_J_maxl 2 := ⟨Or.inl (ww 736 (by decide +kernel) (by decide +kernel)), ⟨⟨by decide, by decide⟩, by decide +kernel⟩, ww 663 (by decide +kernel) (by decide +kernel), ww 29 (by decide +kernel) (by decide +kernel)⟩
theorem k_C_255 : rn_cv "ColourCharts" 255 y_R_firstRejecting 3 := ⟨Or.inl (ww 737 (by decide +kernel) (by decide +kernel)), ⟨⟨by decide, by decide⟩, by decide +kernel⟩, ww 738 (by decide +kernel) (by decide +kernel), ww 739 (by decide +kernel) (by decide +kernel), ww 36 (by decide +kernel) (by decide +kernel)⟩
theorem k_L_161 : rn_cs "ColourChartsLaw" 161 y_L_day 4 := ⟨Or.inl (ww 741 (by decide +kernel) (by decide +kernel)), ⟨⟨by decide, by decide⟩, by decide +kernel⟩, ww 742 (by decide +kernel) (by decide +kernel), ww 26 (by decide +kernel) (by decide +kernel)⟩
theorem k_L_74 : rn_cv "ColourChartsLaw" 74 y_C_day 2 := ⟨Or.inl (ww 744 (by decide +kernel) (by decide +kernel)), ⟨⟨by decide, by decide⟩, by decide +kernel⟩, ww 745 (by decide +kernel) (by decide +kernel), ww 746 (by decide +kernel) (by decide +kernel), ww 27 (by decide +kernel) (by decide +kernel)⟩
theorem k_L_164 : rn_cs "ColourChartsLaw" 164 y_L_drift 3 := ⟨Or.inl (ww 751 (by decide +kernel) (by decide +kernel)), ⟨⟨by decide, by decide⟩, by decide +kernel⟩, ww 752 (by decide +kernel) (by decide +kernel), ww 26 (by decide +kernel) (by decide +kernel)⟩
theorem k_L_77 : rn_cv "ColourChartsLaw" 77 y_C_drift 1 := ⟨Or.inl (ww 754 (by decide +kernel) (by decide +kernel)), ⟨⟨by decide, by decide⟩, by decide +kernel⟩, ww 755 (by decide +kernel) (by decide +kernel), ww 756 (by decide +kernel) (by decide +kernel), ww 27 (by decide +kernel) (by decide +kernel)⟩
theorem k_C_273 : rn_cv "ColourCharts" 273 y_S_freeAbove 0 := ⟨Or.inl (ww 759 (by decide +kernel) (by decide +kernel)), ⟨⟨by decide, by decide⟩, by decide +kernel⟩, ww 629 (by decide +kernel) (by decide +kernel), ww 630 (by decide +kernel) (by decide +kernel), ww 35 (by decide +kernel) (by decide +kernel)⟩
theorem k_C_276 : rn_cv "ColourCharts" 276 y_S_freeBelow 0 := ⟨Or.inl (ww 760 (by decide +kernel) (by decide +kernel)), ⟨⟨by decide, by decide⟩, by decide +kernel⟩, ww 625 (by decide +kernel) (by decide +kernel), ww 626 (by decide +kernel) (by decide +kernel), ww 35 (by decide +kernel) (by decide +kernel)⟩
theorem k_L_167 : rn_cs "ColourChartsLaw" 167 y_L_count 3 := ⟨Or.inl (ww 761 (by decide +kernel) (by decide +kernel)), ⟨⟨by decide, by decide⟩, by decide +kernel⟩, ww 762 (by decide +kernel) (by decide +kernel), ww 26 (by decide +kernel) (by decide +kernel)⟩
theorem k_L_81 : rn_cv "ColourChartsLaw" 81 y_C_count 1 := ⟨Or.inl (ww 764 (by decide +kernel) (by decide +kernel)), ⟨⟨by decide, by decide⟩, by decide +kernel⟩, ww 765 (by decide +kernel) (by decide +kernel), ww 766 (by decide +kernel) (by decide +kernel), ww 27 (by decide +kernel) (by decide +kernel)⟩
theorem k_L_94 : rn_ci "ColourChartsLaw" 94 y_M_init 2 := ⟨Or.inl (ww 771 (by decide +kernel) (by decide +kernel)), ⟨⟨by decide, by decide⟩, by decide +kernel⟩, rfl, ww 772 (by decide +kernel) (by decide +kernel), ww 37 (by decide +kernel) (by decide +kernel)⟩
theorem k_L_99 : rn_cv "ColourChartsLaw" 99 y_M_thrown 0 := ⟨Or.inl (ww 872 (by decide +kernel) (by decide +kernel)), ⟨⟨by decide, by decide⟩, by decide +kernel⟩, ww 873 (by decide +kernel) (by decide +kernel), ww 874 (by decide +kernel) (by decide +kernel), ww 37 (by decide +kernel) (by decide +kernel)⟩
theorem k_L_98 : rn_cv "ColourChartsLaw" 98 y_M_pixel 4 := ⟨Or.inl (ww 876 (by decide +kernel) (by decide +kernel)), ⟨⟨by decide, by decide⟩, by decide +kernel⟩, ww 877 (by decide +kernel) (by decide +kernel), ww 878 (by decide +kernel) (by decide +kernel), ww 37 (by decide +kernel) (by decide +kernel)⟩
theorem k_M_74 : rn_cv "ColourChartsModel" 74 y_M_isCell 2 := ⟨Or.inl (ww 880 (by decide +kernel) (by decide +kernel)), ⟨⟨by decide, by decide⟩, by decide +kernel⟩, ww 882 (by decide +kernel) (by decide +kernel), ww 12 (by decide +kernel) (by decide +kernel), ww 37 (by decide +kernel) (by decide +kernel)⟩
theorem k_M_70 : rn_cs "ColourChartsModel" 70 y_M_within 3 := ⟨Or.inl (ww 884 (by decide +kernel) (by decide +kernel)), ⟨⟨by decide, by decide⟩, by decide +kernel⟩, ww 885 (by decide +kernel) (by decide +kernel), ww 37 (by decide +kernel) (by decide +kernel)⟩
theorem k_M_78 : rn_cv "ColourChartsModel" 78 y_M_goes 3 := ⟨Or.inl (ww 887 (by decide +kernel) (by decide +kernel)), ⟨⟨by decide, by decide⟩, by decide +kernel⟩, ww 889 (by decide +kernel) (by decide +kernel), ww 13 (by decide +kernel) (by decide +kernel), ww 37 (by decide +kernel) (by decide +kernel)⟩
theorem k_L_105 : rn_cv "ColourChartsLaw" 105 y_M_light 3 := ⟨Or.inl (ww 891 (by decide +kernel) (by decide +kernel)), ⟨⟨by decide, by decide⟩, by decide +kernel⟩, ww 892 (by decide +kernel) (by decide +kernel), ww 893 (by decide +kernel) (by decide +kernel), ww 37 (by decide +kernel) (by decide +kernel)⟩
theorem k_L_108 : rn_cv "ColourChartsLaw" 108 y_M_lit 3 := ⟨Or.inl (ww 895 (by decide +kernel) (by decide +kernel)), ⟨⟨by decide, by decide⟩, by decide +kernel⟩, ww 896 (by decide +kernel) (by decide +kernel), ww 897 (by decide +kernel) (by decide +kernel), ww 37 (by decide +kernel) (by decide +kernel)⟩
theorem k_M_82 : rn_cv "ColourChartsModel" 82 y_M_litOf 3 := ⟨Or.inl (ww 899 (by decide +kernel) (by decide +kernel)), ⟨⟨by decide, by decide⟩, by decide +kernel⟩, ww 901 (by decide +kernel) (by decide +kernel), ww 14 (by decide +kernel) (by decide +kernel), ww 37 (by decide +kernel) (by decide +kernel)⟩
theorem k_L_113 : rn_cv "ColourChartsLaw" 113 y_M_find 0 := ⟨Or.inl (ww 903 (by decide +kernel) (by decide +kernel)), ⟨⟨by decide, by decide⟩, by decide +kernel⟩, ww 904 (by decide +kernel) (by decide +kernel), ww 905 (by decide +kernel) (by decide +kernel), ww 37 (by decide +kernel) (by decide +kernel)⟩
theorem k_M_98 : rn_cv "ColourChartsModel" 98 y_M_isDark 2 := ⟨Or.inl (ww 907 (by decide +kernel) (by decide +kernel)), ⟨⟨by decide, by decide⟩, by decide +kernel⟩, ww 909 (by decide +kernel) (by decide +kernel), ww 15 (by decide +kernel) (by decide +kernel), ww 37 (by decide +kernel) (by decide +kernel)⟩
theorem k_L_117 : rn_cv "ColourChartsLaw" 117 y_M_box 1 := ⟨Or.inl (ww 911 (by decide +kernel) (by decide +kernel)), ⟨⟨by decide, by decide⟩, by decide +kernel⟩, ww 912 (by decide +kernel) (by decide +kernel), ww 913 (by decide +kernel) (by decide +kernel), ww 37 (by decide +kernel) (by decide +kernel)⟩
theorem k_L_121 : rn_cv "ColourChartsLaw" 121 y_M_grid 2 := ⟨Or.inl (ww 915 (by decide +kernel) (by decide +kernel)), ⟨⟨by decide, by decide⟩, by decide +kernel⟩, ww 916 (by decide +kernel) (by decide +kernel), ww 917 (by decide +kernel) (by decide +kernel), ww 37 (by decide +kernel) (by decide +kernel)⟩
theorem k_L_124 : rn_cv "ColourChartsLaw" 124 y_M_turn 1 := ⟨Or.inl (ww 919 (by decide +kernel) (by decide +kernel)), ⟨⟨by decide, by decide⟩, by decide +kernel⟩, ww 920 (by decide +kernel) (by decide +kernel), ww 921 (by decide +kernel) (by decide +kernel), ww 37 (by decide +kernel) (by decide +kernel)⟩
theorem k_L_128 : rn_cv "ColourChartsLaw" 128 y_M_read 2 := ⟨Or.inl (ww 923 (by decide +kernel) (by decide +kernel)), ⟨⟨by decide, by decide⟩, by decide +kernel⟩, ww 924 (by decide +kernel) (by decide +kernel), ww 925 (by decide +kernel) (by decide +kernel), ww 37 (by decide +kernel) (by decide +kernel)⟩
theorem k_M_126 : rn_cv "ColourChartsModel" 126 y_M_isPatch 1 := ⟨Or.inl (ww 927 (by decide +kernel) (by decide +kernel)), ⟨⟨by decide, by decide⟩, by decide +kernel⟩, ww 929 (by decide +kernel) (by decide +kernel), ww 16 (by decide +kernel) (by decide +kernel), ww 37 (by decide +kernel) (by decide +kernel)⟩
theorem k_M_130 : rn_cv "ColourChartsModel" 130 y_M_readOf 2 := ⟨Or.inl (ww 931 (by decide +kernel) (by decide +kernel)), ⟨⟨by decide, by decide⟩, by decide +kernel⟩, ww 933 (by decide +kernel) (by decide +kernel), ww 17 (by decide +kernel) (by decide +kernel), ww 37 (by decide +kernel) (by decide +kernel)⟩
theorem k_M_122 : rn_cv "ColourChartsModel" 122 y_M_gather 2 := ⟨Or.inl (ww 935 (by decide +kernel) (by decide +kernel)), ⟨⟨by decide, by decide⟩, by decide +kernel⟩, ww 937 (by decide +kernel) (by decide +kernel), ww 18 (by decide +kernel) (by decide +kernel), ww 37 (by decide +kernel) (by decide +kernel)⟩
theorem k_M_118 : rn_cv "ColourChartsModel" 118 y_M_patchAt 2 := ⟨Or.inl (ww 939 (by decide +kernel) (by decide +kernel)), ⟨⟨by decide, by decide⟩, by decide +kernel⟩, ww 941 (by decide +kernel) (by decide +kernel), ww 19 (by decide +kernel) (by decide +kernel), ww 37 (by decide +kernel) (by decide +kernel)⟩
theorem k_L_131 : rn_cv "ColourChartsLaw" 131 y_M_noise 2 := ⟨Or.inl (ww 943 (by decide +kernel) (by decide +kernel)), ⟨⟨by decide, by decide⟩, by decide +kernel⟩, ww 944 (by decide +kernel) (by decide +kernel), ww 945 (by decide +kernel) (by decide +kernel), ww 37 (by decide +kernel) (by decide +kernel)⟩
theorem k_M_133 : rn_cv "ColourChartsModel" 133 y_M_spread 1 := ⟨Or.inl (ww 947 (by decide +kernel) (by decide +kernel)), ⟨⟨by decide, by decide⟩, by decide +kernel⟩, ww 949 (by decide +kernel) (by decide +kernel), ww 20 (by decide +kernel) (by decide +kernel), ww 37 (by decide +kernel) (by decide +kernel)⟩
theorem k_M_137 : rn_cs "ColourChartsModel" 137 y_M_divisor 2 := ⟨Or.inl (ww 951 (by decide +kernel) (by decide +kernel)), ⟨⟨by decide, by decide⟩, by decide +kernel⟩, ww 952 (by decide +kernel) (by decide +kernel), ww 37 (by decide +kernel) (by decide +kernel)⟩
theorem k_L_135 : rn_cv "ColourChartsLaw" 135 y_M_target 4 := ⟨Or.inl (ww 954 (by decide +kernel) (by decide +kernel)), ⟨⟨by decide, by decide⟩, by decide +kernel⟩, ww 955 (by decide +kernel) (by decide +kernel), ww 956 (by decide +kernel) (by decide +kernel), ww 37 (by decide +kernel) (by decide +kernel)⟩
theorem k_L_138 : rn_cv "ColourChartsLaw" 138 y_M_neutral 1 := ⟨Or.inl (ww 958 (by decide +kernel) (by decide +kernel)), ⟨⟨by decide, by decide⟩, by decide +kernel⟩, ww 959 (by decide +kernel) (by decide +kernel), ww 960 (by decide +kernel) (by decide +kernel), ww 37 (by decide +kernel) (by decide +kernel)⟩
theorem k_L_142 : rn_cv "ColourChartsLaw" 142 y_M_fit 0 := ⟨Or.inl (ww 962 (by decide +kernel) (by decide +kernel)), ⟨⟨by decide, by decide⟩, by decide +kernel⟩, ww 963 (by decide +kernel) (by decide +kernel), ww 964 (by decide +kernel) (by decide +kernel), ww 37 (by decide +kernel) (by decide +kernel)⟩
theorem k_M_145 : rn_cv "ColourChartsModel" 145 y_M_fitPart 1 := ⟨Or.inl (ww 966 (by decide +kernel) (by decide +kernel)), ⟨⟨by decide, by decide⟩, by decide +kernel⟩, ww 968 (by decide +kernel) (by decide +kernel), ww 21 (by decide +kernel) (by decide +kernel), ww 37 (by decide +kernel) (by decide +kernel)⟩
theorem k_M_141 : rn_cv "ColourChartsModel" 141 y_M_keep 4 := ⟨Or.inl (ww 970 (by decide +kernel) (by decide +kernel)), ⟨⟨by decide, by decide⟩, by decide +kernel⟩, ww 972 (by decide +kernel) (by decide +kernel), ww 22 (by decide +kernel) (by decide +kernel), ww 37 (by decide +kernel) (by decide +kernel)⟩
theorem k_L_145 : rn_cv "ColourChartsLaw" 145 y_M_line 2 := ⟨Or.inl (ww 974 (by decide +kernel) (by decide +kernel)), ⟨⟨by decide, by decide⟩, by decide +kernel⟩, ww 975 (by decide +kernel) (by decide +kernel), ww 976 (by decide +kernel) (by decide +kernel), ww 37 (by decide +kernel) (by decide +kernel)⟩
theorem k_L_148 : rn_cv "ColourChartsLaw" 148 y_M_colour 2 := ⟨Or.inl (ww 978 (by decide +kernel) (by decide +kernel)), ⟨⟨by decide, by decide⟩, by decide +kernel⟩, ww 979 (by decide +kernel) (by decide +kernel), ww 980 (by decide +kernel) (by decide +kernel), ww 37 (by decide +kernel) (by decide +kernel)⟩
theorem k_M_156 : rn_cv "ColourChartsModel" 156 y_M_colourOf 2 := ⟨Or.inl (ww 982 (by decide +kernel) (by decide +kernel)), ⟨⟨by decide, by decide⟩, by decide +kernel⟩, ww 984 (by decide +kernel) (by decide +kernel), ww 23 (by decide +kernel) (by decide +kernel), ww 37 (by decide +kernel) (by decide +kernel)⟩
theorem k_L_151 : rn_cv "ColourChartsLaw" 151 y_M_difference 1 := ⟨Or.inl (ww 988 (by decide +kernel) (by decide +kernel)), ⟨⟨by decide, by decide⟩, by decide +kernel⟩, ww 989 (by decide +kernel) (by decide +kernel), ww 990 (by decide +kernel) (by decide +kernel), ww 37 (by decide +kernel) (by decide +kernel)⟩
theorem k_M_159 : rn_cv "ColourChartsModel" 159 y_M_differs 1 := ⟨Or.inl (ww 992 (by decide +kernel) (by decide +kernel)), ⟨⟨by decide, by decide⟩, by decide +kernel⟩, ww 994 (by decide +kernel) (by decide +kernel), ww 24 (by decide +kernel) (by decide +kernel), ww 37 (by decide +kernel) (by decide +kernel)⟩
theorem k_L_154 : rn_cv "ColourChartsLaw" 154 y_M_unit 1 := ⟨Or.inl (ww 996 (by decide +kernel) (by decide +kernel)), ⟨⟨by decide, by decide⟩, by decide +kernel⟩, ww 997 (by decide +kernel) (by decide +kernel), ww 998 (by decide +kernel) (by decide +kernel), ww 37 (by decide +kernel) (by decide +kernel)⟩
theorem k_L_157 : rn_cv "ColourChartsLaw" 157 y_M_rule 0 := ⟨Or.inl (ww 1000 (by decide +kernel) (by decide +kernel)), ⟨⟨by decide, by decide⟩, by decide +kernel⟩, ww 1001 (by decide +kernel) (by decide +kernel), ww 1002 (by decide +kernel) (by decide +kernel), ww 37 (by decide +kernel) (by decide +kernel)⟩
theorem k_L_160 : rn_cv "ColourChartsLaw" 160 y_M_reject 0 := ⟨Or.inl (ww 1004 (by decide +kernel) (by decide +kernel)), ⟨⟨by decide, by decide⟩, by decide +kernel⟩, ww 1005 (by decide +kernel) (by decide +kernel), ww 1006 (by decide +kernel) (by decide +kernel), ww 37 (by decide +kernel) (by decide +kernel)⟩
theorem k_M_169 : rn_cv "ColourChartsModel" 169 y_M_measure 1 := ⟨Or.inl (ww 1008 (by decide +kernel) (by decide +kernel)), ⟨⟨by decide, by decide⟩, by decide +kernel⟩, ww 1010 (by decide +kernel) (by decide +kernel), ww 25 (by decide +kernel) (by decide +kernel), ww 37 (by decide +kernel) (by decide +kernel)⟩
theorem k_L_163 : rn_cv "ColourChartsLaw" 163 y_M_day 2 := ⟨Or.inl (ww 1012 (by decide +kernel) (by decide +kernel)), ⟨⟨by decide, by decide⟩, by decide +kernel⟩, ww 1013 (by decide +kernel) (by decide +kernel), ww 1014 (by decide +kernel) (by decide +kernel), ww 37 (by decide +kernel) (by decide +kernel)⟩
theorem k_L_166 : rn_cv "ColourChartsLaw" 166 y_M_drift 1 := ⟨Or.inl (ww 1017 (by decide +kernel) (by decide +kernel)), ⟨⟨by decide, by decide⟩, by decide +kernel⟩, ww 1018 (by decide +kernel) (by decide +kernel), ww 1019 (by decide +kernel) (by decide +kernel), ww 37 (by decide +kernel) (by decide +kernel)⟩
theorem k_L_169 : rn_cv "ColourChartsLaw" 169 y_M_count 1 := ⟨Or.inl (ww 1021 (by decide +kernel) (by decide +kernel)), ⟨⟨by decide, by decide⟩, by decide +kernel⟩, ww 1022 (by decide +kernel) (by decide +kernel), ww 1023 (by decide +kernel) (by decide +kernel), ww 37 (by decide +kernel) (by decide +kernel)⟩
theorem o_C_1 : Cond.methodLink "ColourCharts" 1 Lib.objectInit ∈ allW := ww 49 (by decide +kernel) (by decide +kernel)
theorem o_I_3 : Cond.methodLink "ColourCharts$Picture" 3 Lib.objectInit ∈ allW := ww 57 (by decide +kernel) (by decide +kernel)
theorem o_F_3 : Cond.methodLink "ColourCharts$Frame" 3 Lib.objectInit ∈ allW := ww 87 (by decide +kernel) (by decide +kernel)
theorem o_Y_1 : Cond.methodLink "ColourCharts$Layout" 1 Lib.objectInit ∈ allW := ww 114 (by decide +kernel) (by decide +kernel)
theorem o_P_3 : Cond.methodLink "ColourCharts$Patch" 3 Lib.objectInit ∈ allW := ww 135 (by decide +kernel) (by decide +kernel)
theorem o_T_3 : Cond.methodLink "ColourCharts$Targets" 3 Lib.objectInit ∈ allW := ww 154 (by decide +kernel) (by decide +kernel)
theorem o_N_3 : Cond.methodLink "ColourCharts$Lines" 3 Lib.objectInit ∈ allW := ww 173 (by decide +kernel) (by decide +kernel)
theorem o_S_1 : Cond.methodLink "ColourCharts$Sums" 1 Lib.objectInit ∈ allW := ww 193 (by decide +kernel) (by decide +kernel)
theorem o_R_3 : Cond.methodLink "ColourCharts$Rules" 3 Lib.objectInit ∈ allW := ww 221 (by decide +kernel) (by decide +kernel)
theorem o_M_1 : Cond.methodLink "ColourChartsModel" 1 Lib.objectInit ∈ allW := ww 774 (by decide +kernel) (by decide +kernel)
theorem o_inst : Cond.instanceMethod Lib.objectInit ∈ allW := ww 50 (by decide +kernel) (by decide +kernel)
theorem o_code : Cond.code Lib.objectInit ⟨#[0xb1]⟩ 1 none ∈ allW := ww 51 (by decide +kernel) (by decide +kernel)
abbrev z_C : List Value := [.null, .null, .null, .null, .null, .null, .null, .null, .null]
theorem c_L_8 : rn_cl "ColourChartsLaw" 8 0 z_C := ⟨_, _, _, ty_C, rfl, in_C, tk_C, ww 44 (by decide +kernel) (by decide +kernel), ww 45 (by decide +kernel) (by decide +kernel), ww 27 (by decide +kernel) (by decide +kernel), rfl, fun z sa j hj => by match j, hj with
  | 0, _ => rfl
  | 1, _ => rfl
  | 2, _ => rfl
  | 3, _ => rfl
  | 4, _ => rfl
  | 5, _ => rfl
  | 6, _ => rfl
  | 7, _ => rfl
  | 8, _ => rfl
  | j + 9, hj => exact absurd hj (by omega)⟩
abbrev z_I : List Value := [.int 0, .int 0, .null, .null]
theorem c_C_7 : rn_cl "ColourCharts" 7 1 z_I := ⟨_, _, _, ty_I, rfl, in_I, tk_I, ww 52 (by decide +kernel) (by decide +kernel), ww 53 (by decide +kernel) (by decide +kernel), ww 28 (by decide +kernel) (by decide +kernel), rfl, fun z sa j hj => by match j, hj with
  | 0, _ => rfl
  | 1, _ => rfl
  | 2, _ => rfl
  | 3, _ => rfl
  | j + 4, hj => exact absurd hj (by omega)⟩
abbrev z_F : List Value := [.int 0, .int 0, .int 0, .int 0, .int 0]
theorem c_C_18 : rn_cl "ColourCharts" 18 2 z_F := ⟨_, _, _, ty_F, rfl, in_F, tk_F, ww 82 (by decide +kernel) (by decide +kernel), ww 83 (by decide +kernel) (by decide +kernel), ww 30 (by decide +kernel) (by decide +kernel), rfl, fun z sa j hj => by match j, hj with
  | 0, _ => rfl
  | 1, _ => rfl
  | 2, _ => rfl
  | 3, _ => rfl
  | 4, _ => rfl
  | j + 5, hj => exact absurd hj (by omega)⟩
abbrev z_Y : List Value := [.int 0, .int 0, .int 0]
theorem c_C_25 : rn_cl "ColourCharts" 25 3 z_Y := ⟨_, _, _, ty_Y, rfl, in_Y, tk_Y, ww 109 (by decide +kernel) (by decide +kernel), ww 110 (by decide +kernel) (by decide +kernel), ww 31 (by decide +kernel) (by decide +kernel), rfl, fun z sa j hj => by match j, hj with
  | 0, _ => rfl
  | 1, _ => rfl
  | 2, _ => rfl
  | j + 3, hj => exact absurd hj (by omega)⟩
abbrev z_P : List Value := [.int 0, .int 0, .int 0, .int 0]
theorem c_C_32 : rn_cl "ColourCharts" 32 4 z_P := ⟨_, _, _, ty_P, rfl, in_P, tk_P, ww 130 (by decide +kernel) (by decide +kernel), ww 131 (by decide +kernel) (by decide +kernel), ww 32 (by decide +kernel) (by decide +kernel), rfl, fun z sa j hj => by match j, hj with
  | 0, _ => rfl
  | 1, _ => rfl
  | 2, _ => rfl
  | 3, _ => rfl
  | j + 4, hj => exact absurd hj (by omega)⟩
abbrev z_T : List Value := [.null, .null, .int 0]
theorem c_C_39 : rn_cl "ColourCharts" 39 5 z_T := ⟨_, _, _, ty_T, rfl, in_T, tk_T, ww 149 (by decide +kernel) (by decide +kernel), ww 150 (by decide +kernel) (by decide +kernel), ww 33 (by decide +kernel) (by decide +kernel), rfl, fun z sa j hj => by match j, hj with
  | 0, _ => rfl
  | 1, _ => rfl
  | 2, _ => rfl
  | j + 3, hj => exact absurd hj (by omega)⟩
abbrev z_N : List Value := [.int 0, .null, .null, .null]
theorem c_C_46 : rn_cl "ColourCharts" 46 6 z_N := ⟨_, _, _, ty_N, rfl, in_N, tk_N, ww 168 (by decide +kernel) (by decide +kernel), ww 169 (by decide +kernel) (by decide +kernel), ww 34 (by decide +kernel) (by decide +kernel), rfl, fun z sa j hj => by match j, hj with
  | 0, _ => rfl
  | 1, _ => rfl
  | 2, _ => rfl
  | 3, _ => rfl
  | j + 4, hj => exact absurd hj (by omega)⟩
abbrev z_S : List Value := [.int 0, .long 0, .long 0, .long 0, .long 0]
theorem c_C_53 : rn_cl "ColourCharts" 53 7 z_S := ⟨_, _, _, ty_S, rfl, in_S, tk_S, ww 188 (by decide +kernel) (by decide +kernel), ww 189 (by decide +kernel) (by decide +kernel), ww 35 (by decide +kernel) (by decide +kernel), rfl, fun z sa j hj => by match j, hj with
  | 0, _ => rfl
  | 1, _ => rfl
  | 2, _ => rfl
  | 3, _ => rfl
  | 4, _ => rfl
  | j + 5, hj => exact absurd hj (by omega)⟩
abbrev z_R : List Value := [.int 0, .int 0, .null, .null, .null, .null]
theorem c_C_60 : rn_cl "ColourCharts" 60 8 z_R := ⟨_, _, _, ty_R, rfl, in_R, tk_R, ww 216 (by decide +kernel) (by decide +kernel), ww 217 (by decide +kernel) (by decide +kernel), ww 36 (by decide +kernel) (by decide +kernel), rfl, fun z sa j hj => by match j, hj with
  | 0, _ => rfl
  | 1, _ => rfl
  | 2, _ => rfl
  | 3, _ => rfl
  | 4, _ => rfl
  | 5, _ => rfl
  | j + 6, hj => exact absurd hj (by omega)⟩
abbrev z_M : List Value := [.int 0, .int 0, .int 0, .null, .null, .int 0, .int 0, .int 0, .int 0, .int 0, .int 0, .int 0, .int 0, .null, .null, .int 0, .int 0, .null, .null, .null, .int 0, .null, .int 0, .null, .null, .null, .int 0, .null, .null, .int 0, .int 0, .long 0]
theorem c_L_92 : rn_cl "ColourChartsLaw" 92 9 z_M := ⟨_, _, _, ty_M, rfl, in_M, tk_M, ww 769 (by decide +kernel) (by decide +kernel), ww 770 (by decide +kernel) (by decide +kernel), ww 37 (by decide +kernel) (by decide +kernel), rfl, fun z sa j hj => by match j, hj with
  | 0, _ => rfl
  | 1, _ => rfl
  | 2, _ => rfl
  | 3, _ => rfl
  | 4, _ => rfl
  | 5, _ => rfl
  | 6, _ => rfl
  | 7, _ => rfl
  | 8, _ => rfl
  | 9, _ => rfl
  | 10, _ => rfl
  | 11, _ => rfl
  | 12, _ => rfl
  | 13, _ => rfl
  | 14, _ => rfl
  | 15, _ => rfl
  | 16, _ => rfl
  | 17, _ => rfl
  | 18, _ => rfl
  | 19, _ => rfl
  | 20, _ => rfl
  | 21, _ => rfl
  | 22, _ => rfl
  | 23, _ => rfl
  | 24, _ => rfl
  | 25, _ => rfl
  | 26, _ => rfl
  | 27, _ => rfl
  | 28, _ => rfl
  | 29, _ => rfl
  | 30, _ => rfl
  | 31, _ => rfl
  | j + 32, hj => exact absurd hj (by omega)⟩
theorem v_C_323 : Cond.constantLong "ColourCharts" 323 2 ∈ allW := ww 523 (by decide +kernel) (by decide +kernel)
theorem v_N_58 : Cond.constantLong "ColourCharts$Lines" 58 255 ∈ allW := ww 658 (by decide +kernel) (by decide +kernel)
theorem v_C_259 : Cond.constant "ColourCharts" 259 100000 ∈ allW := ww 748 (by decide +kernel) (by decide +kernel)
theorem v_M_152 : Cond.constantLong "ColourChartsModel" 152 2 ∈ allW := ww 986 (by decide +kernel) (by decide +kernel)
theorem v_M_154 : Cond.constantLong "ColourChartsModel" 154 255 ∈ allW := ww 987 (by decide +kernel) (by decide +kernel)
theorem v_M_172 : Cond.constant "ColourChartsModel" 172 100000 ∈ allW := ww 1016 (by decide +kernel) (by decide +kernel)
theorem a_int : Cond.arrayClass .int ∈ allW := ww 81 (by decide +kernel) (by decide +kernel)
theorem a_long : Cond.arrayClass .long ∈ allW := ww 187 (by decide +kernel) (by decide +kernel)
theorem a_boolean : Cond.arrayClass .boolean ∈ allW := ww 167 (by decide +kernel) (by decide +kernel)
theorem a_char : Cond.arrayClass .char ∈ allW := ww 243 (by decide +kernel) (by decide +kernel)
