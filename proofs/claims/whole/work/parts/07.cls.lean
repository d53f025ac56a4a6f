/-! classes, fields, methods, cells: their words (written by wip/gen/cls.py) -/
theorem q_layin {C : String} {T : u_T} {N : Nat} (is : List Nat) (h : is.map (fun i => tables_1[i]?) = (u_ws C T N).map some) (hg : (u_ws C T N).all goodWord = true) : ∀ w ∈ u_ws C T N, w ∈ q_T := by
  intro w hw
  have h1 : some w ∈ (u_ws C T N).map some := List.mem_map.mpr ⟨w, hw, rfl⟩
  rw [← h] at h1
  obtain ⟨i, -, hi⟩ := List.mem_map.mp h1
  exact q_in i hi (List.all_eq_true.mp hg w hw)
theorem lay_ch : ∀ w ∈ u_ws R_ch F_ch 1, w ∈ q_T := q_layin [150] (by decide +kernel) (by decide +kernel)
theorem lay_cr : ∀ w ∈ u_ws R_cr F_cr 6, w ∈ q_T := q_layin [169, 171, 173, 175, 177, 179] (by decide +kernel) (by decide +kernel)
theorem lay_gd : ∀ w ∈ u_ws R_gd F_gd 15, w ∈ q_T := q_layin [240, 242, 244, 246, 248, 250, 252, 254, 256, 258, 260, 262, 264, 266, 268] (by decide +kernel) (by decide +kernel)
theorem lay_gr : ∀ w ∈ u_ws R_gr F_gr 3, w ∈ q_T := q_layin [109, 111, 113] (by decide +kernel) (by decide +kernel)
theorem lay_hi : ∀ w ∈ u_ws R_hi F_hi 4, w ∈ q_T := q_layin [134, 136, 138, 140] (by decide +kernel) (by decide +kernel)
theorem lay_ru : ∀ w ∈ u_ws R_ru F_ru 8, w ∈ q_T := q_layin [89, 91, 93, 95, 97, 99, 101, 103] (by decide +kernel) (by decide +kernel)
theorem lay_tp : ∀ w ∈ u_ws R_tp F_tp 9, w ∈ q_T := q_layin [49, 51, 53, 55, 57, 59, 61, 63, 65] (by decide +kernel) (by decide +kernel)
theorem lay_hs : ∀ w ∈ u_ws R_hs F_hs 10, w ∈ q_T := q_layin [281, 283, 285, 287, 289, 291, 293, 295, 297, 299] (by decide +kernel) (by decide +kernel)
theorem lay_mo : ∀ w ∈ u_ws R_mo F_mo 76, w ∈ q_T := q_layin [1019, 1021, 1023, 1025, 1027, 1029, 1031, 1033, 1035, 1037, 1039, 1041, 1043, 1045, 1047, 1049, 1051, 1053, 1055, 1057, 1059, 1061, 1063, 1065, 1067, 1069, 1071, 1073, 1075, 1077, 1079, 1081, 1083, 1085, 1087, 1089, 1091, 1093, 1095, 1097, 1099, 1101, 1103, 1105, 1107, 1109, 1111, 1113, 1115, 1117, 1119, 1121, 1123, 1125, 1127, 1129, 1131, 1133, 1135, 1137, 1139, 1141, 1143, 1145, 1147, 1149, 1151, 1153, 1155, 1157, 1159, 1161, 1163, 1165, 1167, 1169] (by decide +kernel) (by decide +kernel)
theorem q_clsok : ∀ (ci : Nat) (c : vw_C), q_cl[ci]? = some c → (∀ w ∈ u_ws c.1 c.2.1 c.2.2, w ∈ q_T) ∧ (∃ ty : Nat → FieldType, ∀ k, k < c.2.2 → parseFieldDescriptor (c.2.1 k).2.2.1 = some (ty k)) ∧ (∀ a, a < c.2.2 → ∀ b, b < c.2.2 → a ≠ b → (c.2.1 a).2.1 ≠ (c.2.1 b).2.1) := by
  intro ci c h
  match ci, h with
  | 0, h => cases h; exact ⟨lay_ch, ⟨t_ch, t_ch_ok⟩, n_ch⟩
  | 1, h => cases h; exact ⟨lay_cr, ⟨t_cr, t_cr_ok⟩, n_cr⟩
  | 2, h => cases h; exact ⟨lay_gd, ⟨t_gd, t_gd_ok⟩, n_gd⟩
  | 3, h => cases h; exact ⟨lay_gr, ⟨t_gr, t_gr_ok⟩, n_gr⟩
  | 4, h => cases h; exact ⟨lay_hi, ⟨t_hi, t_hi_ok⟩, n_hi⟩
  | 5, h => cases h; exact ⟨lay_ru, ⟨t_ru, t_ru_ok⟩, n_ru⟩
  | 6, h => cases h; exact ⟨lay_tp, ⟨t_tp, t_tp_ok⟩, n_tp⟩
  | 7, h => cases h; exact ⟨lay_hs, ⟨t_hs, t_hs_ok⟩, n_hs⟩
  | 8, h => cases h; exact ⟨lay_mo, ⟨t_mo, t_mo_ok⟩, n_mo⟩
  | k + 9, h => simp [q_cl] at h
/-- a field link: whose, its number in the pool, the class, the field, its place as a whole number, descriptor, final, kind -/
def q_fl (own : String) (idx ci k : Nat) (kk : Int) (d : String) (fin : Bool) (t : Nat) : Prop := ∃ c : vw_C, q_cl[ci]? = some c ∧ k < c.2.2 ∧ kk = (k : Int) ∧ (c.2.1 k).2.2.1 = d ∧ (c.2.1 k).2.2.2 = fin ∧ q_ft ci kk = t ∧ ci < 20 ∧ Cond.fieldLink own idx (c.2.1 k).1 (c.2.1 k).2.1 (c.2.1 k).2.2.1 ∈ q_T
theorem fl_tp_9 : q_fl "HiredShades$Tape" 9 6 0 0 "[I" true 2 := ⟨_, rfl, by decide, rfl, rfl, rfl, rfl, by decide, q_in 31 (by decide +kernel) rfl⟩
theorem fl_hs_271 : q_fl "HiredShades" 271 6 0 0 "[I" true 2 := ⟨_, rfl, by decide, rfl, rfl, rfl, rfl, by decide, q_in 32 (by decide +kernel) rfl⟩
theorem fl_hs_64 : q_fl "HiredShades" 64 6 1 1 "I" false 0 := ⟨_, rfl, by decide, rfl, rfl, rfl, rfl, by decide, q_in 33 (by decide +kernel) rfl⟩
theorem fl_tp_19 : q_fl "HiredShades$Tape" 19 6 1 1 "I" false 0 := ⟨_, rfl, by decide, rfl, rfl, rfl, rfl, by decide, q_in 34 (by decide +kernel) rfl⟩
theorem fl_gr_55 : q_fl "HiredShades$GuildReader" 55 6 2 2 "I" false 0 := ⟨_, rfl, by decide, rfl, rfl, rfl, rfl, by decide, q_in 35 (by decide +kernel) rfl⟩
theorem fl_tp_22 : q_fl "HiredShades$Tape" 22 6 2 2 "I" false 0 := ⟨_, rfl, by decide, rfl, rfl, rfl, rfl, by decide, q_in 36 (by decide +kernel) rfl⟩
theorem fl_ru_105 : q_fl "HiredShades$Rules" 105 6 2 2 "I" false 0 := ⟨_, rfl, by decide, rfl, rfl, rfl, rfl, by decide, q_in 37 (by decide +kernel) rfl⟩
theorem fl_tp_28 : q_fl "HiredShades$Tape" 28 6 3 3 "I" false 0 := ⟨_, rfl, by decide, rfl, rfl, rfl, rfl, by decide, q_in 38 (by decide +kernel) rfl⟩
theorem fl_hs_84 : q_fl "HiredShades" 84 6 3 3 "I" false 0 := ⟨_, rfl, by decide, rfl, rfl, rfl, rfl, by decide, q_in 39 (by decide +kernel) rfl⟩
theorem fl_tp_15 : q_fl "HiredShades$Tape" 15 6 4 4 "I" false 0 := ⟨_, rfl, by decide, rfl, rfl, rfl, rfl, by decide, q_in 40 (by decide +kernel) rfl⟩
theorem fl_hs_87 : q_fl "HiredShades" 87 6 4 4 "I" false 0 := ⟨_, rfl, by decide, rfl, rfl, rfl, rfl, by decide, q_in 41 (by decide +kernel) rfl⟩
theorem fl_gr_152 : q_fl "HiredShades$GuildReader" 152 6 5 5 "I" false 0 := ⟨_, rfl, by decide, rfl, rfl, rfl, rfl, by decide, q_in 42 (by decide +kernel) rfl⟩
theorem fl_tp_69 : q_fl "HiredShades$Tape" 69 6 5 5 "I" false 0 := ⟨_, rfl, by decide, rfl, rfl, rfl, rfl, by decide, q_in 43 (by decide +kernel) rfl⟩
theorem fl_gr_149 : q_fl "HiredShades$GuildReader" 149 6 6 6 "I" false 0 := ⟨_, rfl, by decide, rfl, rfl, rfl, rfl, by decide, q_in 44 (by decide +kernel) rfl⟩
theorem fl_ru_99 : q_fl "HiredShades$Rules" 99 6 6 6 "I" false 0 := ⟨_, rfl, by decide, rfl, rfl, rfl, rfl, by decide, q_in 45 (by decide +kernel) rfl⟩
theorem fl_tp_72 : q_fl "HiredShades$Tape" 72 6 6 6 "I" false 0 := ⟨_, rfl, by decide, rfl, rfl, rfl, rfl, by decide, q_in 46 (by decide +kernel) rfl⟩
theorem fl_tp_39 : q_fl "HiredShades$Tape" 39 6 7 7 "I" false 0 := ⟨_, rfl, by decide, rfl, rfl, rfl, rfl, by decide, q_in 47 (by decide +kernel) rfl⟩
theorem fl_tp_25 : q_fl "HiredShades$Tape" 25 6 8 8 "I" false 0 := ⟨_, rfl, by decide, rfl, rfl, rfl, rfl, by decide, q_in 48 (by decide +kernel) rfl⟩
theorem fl_ru_29 : q_fl "HiredShades$Rules" 29 5 0 0 "LHiredShades$Tape;" true 2 := ⟨_, rfl, by decide, rfl, rfl, rfl, rfl, by decide, q_in 81 (by decide +kernel) rfl⟩
theorem fl_ru_9 : q_fl "HiredShades$Rules" 9 5 1 1 "[I" true 2 := ⟨_, rfl, by decide, rfl, rfl, rfl, rfl, by decide, q_in 82 (by decide +kernel) rfl⟩
theorem fl_ru_33 : q_fl "HiredShades$Rules" 33 5 2 2 "I" false 0 := ⟨_, rfl, by decide, rfl, rfl, rfl, rfl, by decide, q_in 83 (by decide +kernel) rfl⟩
theorem fl_ru_15 : q_fl "HiredShades$Rules" 15 5 3 3 "[I" true 2 := ⟨_, rfl, by decide, rfl, rfl, rfl, rfl, by decide, q_in 84 (by decide +kernel) rfl⟩
theorem fl_ru_18 : q_fl "HiredShades$Rules" 18 5 4 4 "[I" true 2 := ⟨_, rfl, by decide, rfl, rfl, rfl, rfl, by decide, q_in 85 (by decide +kernel) rfl⟩
theorem fl_ru_23 : q_fl "HiredShades$Rules" 23 5 5 5 "[I" true 2 := ⟨_, rfl, by decide, rfl, rfl, rfl, rfl, by decide, q_in 86 (by decide +kernel) rfl⟩
theorem fl_ru_26 : q_fl "HiredShades$Rules" 26 5 6 6 "[I" true 2 := ⟨_, rfl, by decide, rfl, rfl, rfl, rfl, by decide, q_in 87 (by decide +kernel) rfl⟩
theorem fl_ru_143 : q_fl "HiredShades$Rules" 143 5 7 7 "I" false 0 := ⟨_, rfl, by decide, rfl, rfl, rfl, rfl, by decide, q_in 88 (by decide +kernel) rfl⟩
theorem fl_gr_9 : q_fl "HiredShades$GuildReader" 9 3 0 0 "LHiredShades$Tape;" true 2 := ⟨_, rfl, by decide, rfl, rfl, rfl, rfl, by decide, q_in 106 (by decide +kernel) rfl⟩
theorem fl_gr_20 : q_fl "HiredShades$GuildReader" 20 3 1 1 "LHiredShades$Rules;" true 2 := ⟨_, rfl, by decide, rfl, rfl, rfl, rfl, by decide, q_in 107 (by decide +kernel) rfl⟩
theorem fl_gr_24 : q_fl "HiredShades$GuildReader" 24 3 2 2 "LHiredShades$Guild;" false 2 := ⟨_, rfl, by decide, rfl, rfl, rfl, rfl, by decide, q_in 108 (by decide +kernel) rfl⟩
theorem fl_hi_9 : q_fl "HiredShades$Hires" 9 4 0 0 "[I" true 2 := ⟨_, rfl, by decide, rfl, rfl, rfl, rfl, by decide, q_in 128 (by decide +kernel) rfl⟩
theorem fl_hs_143 : q_fl "HiredShades" 143 4 0 0 "[I" true 2 := ⟨_, rfl, by decide, rfl, rfl, rfl, rfl, by decide, q_in 129 (by decide +kernel) rfl⟩
theorem fl_hi_17 : q_fl "HiredShades$Hires" 17 4 1 1 "[[I" true 2 := ⟨_, rfl, by decide, rfl, rfl, rfl, rfl, by decide, q_in 130 (by decide +kernel) rfl⟩
theorem fl_hi_27 : q_fl "HiredShades$Hires" 27 4 2 2 "I" false 0 := ⟨_, rfl, by decide, rfl, rfl, rfl, rfl, by decide, q_in 131 (by decide +kernel) rfl⟩
theorem fl_hi_23 : q_fl "HiredShades$Hires" 23 4 3 3 "I" false 0 := ⟨_, rfl, by decide, rfl, rfl, rfl, rfl, by decide, q_in 132 (by decide +kernel) rfl⟩
theorem fl_hs_109 : q_fl "HiredShades" 109 4 3 3 "I" false 0 := ⟨_, rfl, by decide, rfl, rfl, rfl, rfl, by decide, q_in 133 (by decide +kernel) rfl⟩
theorem fl_ch_9 : q_fl "HiredShades$Chains" 9 0 0 0 "[I" true 2 := ⟨_, rfl, by decide, rfl, rfl, rfl, rfl, by decide, q_in 149 (by decide +kernel) rfl⟩
theorem fl_cr_11 : q_fl "HiredShades$Crews" 11 1 0 0 "[I" true 2 := ⟨_, rfl, by decide, rfl, rfl, rfl, rfl, by decide, q_in 159 (by decide +kernel) rfl⟩
theorem fl_hs_219 : q_fl "HiredShades" 219 1 0 0 "[I" true 2 := ⟨_, rfl, by decide, rfl, rfl, rfl, rfl, by decide, q_in 160 (by decide +kernel) rfl⟩
theorem fl_cr_30 : q_fl "HiredShades$Crews" 30 1 1 1 "I" false 0 := ⟨_, rfl, by decide, rfl, rfl, rfl, rfl, by decide, q_in 161 (by decide +kernel) rfl⟩
theorem fl_hs_213 : q_fl "HiredShades" 213 1 1 1 "I" false 0 := ⟨_, rfl, by decide, rfl, rfl, rfl, rfl, by decide, q_in 162 (by decide +kernel) rfl⟩
theorem fl_cr_15 : q_fl "HiredShades$Crews" 15 1 2 2 "[I" true 2 := ⟨_, rfl, by decide, rfl, rfl, rfl, rfl, by decide, q_in 163 (by decide +kernel) rfl⟩
theorem fl_hs_216 : q_fl "HiredShades" 216 1 2 2 "[I" true 2 := ⟨_, rfl, by decide, rfl, rfl, rfl, rfl, by decide, q_in 164 (by decide +kernel) rfl⟩
theorem fl_cr_71 : q_fl "HiredShades$Crews" 71 1 3 3 "I" false 0 := ⟨_, rfl, by decide, rfl, rfl, rfl, rfl, by decide, q_in 165 (by decide +kernel) rfl⟩
theorem fl_hs_210 : q_fl "HiredShades" 210 1 3 3 "I" false 0 := ⟨_, rfl, by decide, rfl, rfl, rfl, rfl, by decide, q_in 166 (by decide +kernel) rfl⟩
theorem fl_cr_18 : q_fl "HiredShades$Crews" 18 1 4 4 "[I" true 2 := ⟨_, rfl, by decide, rfl, rfl, rfl, rfl, by decide, q_in 167 (by decide +kernel) rfl⟩
theorem fl_cr_21 : q_fl "HiredShades$Crews" 21 1 5 5 "[I" true 2 := ⟨_, rfl, by decide, rfl, rfl, rfl, rfl, by decide, q_in 168 (by decide +kernel) rfl⟩
theorem fl_gd_9 : q_fl "HiredShades$Guild" 9 2 0 0 "[I" true 2 := ⟨_, rfl, by decide, rfl, rfl, rfl, rfl, by decide, q_in 189 (by decide +kernel) rfl⟩
theorem fl_ch_15 : q_fl "HiredShades$Chains" 15 2 0 0 "[I" true 2 := ⟨_, rfl, by decide, rfl, rfl, rfl, rfl, by decide, q_in 190 (by decide +kernel) rfl⟩
theorem fl_ru_37 : q_fl "HiredShades$Rules" 37 2 0 0 "[I" true 2 := ⟨_, rfl, by decide, rfl, rfl, rfl, rfl, by decide, q_in 191 (by decide +kernel) rfl⟩
theorem fl_cr_38 : q_fl "HiredShades$Crews" 38 2 0 0 "[I" true 2 := ⟨_, rfl, by decide, rfl, rfl, rfl, rfl, by decide, q_in 192 (by decide +kernel) rfl⟩
theorem fl_hs_90 : q_fl "HiredShades" 90 2 0 0 "[I" true 2 := ⟨_, rfl, by decide, rfl, rfl, rfl, rfl, by decide, q_in 193 (by decide +kernel) rfl⟩
theorem fl_gr_121 : q_fl "HiredShades$GuildReader" 121 2 0 0 "[I" true 2 := ⟨_, rfl, by decide, rfl, rfl, rfl, rfl, by decide, q_in 194 (by decide +kernel) rfl⟩
theorem fl_gd_17 : q_fl "HiredShades$Guild" 17 2 1 1 "[[I" true 2 := ⟨_, rfl, by decide, rfl, rfl, rfl, rfl, by decide, q_in 195 (by decide +kernel) rfl⟩
theorem fl_hs_116 : q_fl "HiredShades" 116 2 1 1 "[[I" true 2 := ⟨_, rfl, by decide, rfl, rfl, rfl, rfl, by decide, q_in 196 (by decide +kernel) rfl⟩
theorem fl_gd_20 : q_fl "HiredShades$Guild" 20 2 2 2 "[[I" true 2 := ⟨_, rfl, by decide, rfl, rfl, rfl, rfl, by decide, q_in 197 (by decide +kernel) rfl⟩
theorem fl_gr_110 : q_fl "HiredShades$GuildReader" 110 2 2 2 "[[I" true 2 := ⟨_, rfl, by decide, rfl, rfl, rfl, rfl, by decide, q_in 198 (by decide +kernel) rfl⟩
theorem fl_hs_124 : q_fl "HiredShades" 124 2 2 2 "[[I" true 2 := ⟨_, rfl, by decide, rfl, rfl, rfl, rfl, by decide, q_in 199 (by decide +kernel) rfl⟩
theorem fl_gd_23 : q_fl "HiredShades$Guild" 23 2 3 3 "[[I" true 2 := ⟨_, rfl, by decide, rfl, rfl, rfl, rfl, by decide, q_in 200 (by decide +kernel) rfl⟩
theorem fl_gr_125 : q_fl "HiredShades$GuildReader" 125 2 3 3 "[[I" true 2 := ⟨_, rfl, by decide, rfl, rfl, rfl, rfl, by decide, q_in 201 (by decide +kernel) rfl⟩
theorem fl_hs_127 : q_fl "HiredShades" 127 2 3 3 "[[I" true 2 := ⟨_, rfl, by decide, rfl, rfl, rfl, rfl, by decide, q_in 202 (by decide +kernel) rfl⟩
theorem fl_gd_26 : q_fl "HiredShades$Guild" 26 2 4 4 "[[I" true 2 := ⟨_, rfl, by decide, rfl, rfl, rfl, rfl, by decide, q_in 203 (by decide +kernel) rfl⟩
theorem fl_gr_140 : q_fl "HiredShades$GuildReader" 140 2 4 4 "[[I" true 2 := ⟨_, rfl, by decide, rfl, rfl, rfl, rfl, by decide, q_in 204 (by decide +kernel) rfl⟩
theorem fl_hs_130 : q_fl "HiredShades" 130 2 4 4 "[[I" true 2 := ⟨_, rfl, by decide, rfl, rfl, rfl, rfl, by decide, q_in 205 (by decide +kernel) rfl⟩
theorem fl_gd_29 : q_fl "HiredShades$Guild" 29 2 5 5 "[[I" true 2 := ⟨_, rfl, by decide, rfl, rfl, rfl, rfl, by decide, q_in 206 (by decide +kernel) rfl⟩
theorem fl_gr_143 : q_fl "HiredShades$GuildReader" 143 2 5 5 "[[I" true 2 := ⟨_, rfl, by decide, rfl, rfl, rfl, rfl, by decide, q_in 207 (by decide +kernel) rfl⟩
theorem fl_hs_133 : q_fl "HiredShades" 133 2 5 5 "[[I" true 2 := ⟨_, rfl, by decide, rfl, rfl, rfl, rfl, by decide, q_in 208 (by decide +kernel) rfl⟩
theorem fl_gd_32 : q_fl "HiredShades$Guild" 32 2 6 6 "[I" true 2 := ⟨_, rfl, by decide, rfl, rfl, rfl, rfl, by decide, q_in 209 (by decide +kernel) rfl⟩
theorem fl_gr_137 : q_fl "HiredShades$GuildReader" 137 2 6 6 "[I" true 2 := ⟨_, rfl, by decide, rfl, rfl, rfl, rfl, by decide, q_in 210 (by decide +kernel) rfl⟩
theorem fl_ru_119 : q_fl "HiredShades$Rules" 119 2 6 6 "[I" true 2 := ⟨_, rfl, by decide, rfl, rfl, rfl, rfl, by decide, q_in 211 (by decide +kernel) rfl⟩
theorem fl_hs_233 : q_fl "HiredShades" 233 2 6 6 "[I" true 2 := ⟨_, rfl, by decide, rfl, rfl, rfl, rfl, by decide, q_in 212 (by decide +kernel) rfl⟩
theorem fl_gd_35 : q_fl "HiredShades$Guild" 35 2 7 7 "[[I" true 2 := ⟨_, rfl, by decide, rfl, rfl, rfl, rfl, by decide, q_in 213 (by decide +kernel) rfl⟩
theorem fl_hs_146 : q_fl "HiredShades" 146 2 7 7 "[[I" true 2 := ⟨_, rfl, by decide, rfl, rfl, rfl, rfl, by decide, q_in 214 (by decide +kernel) rfl⟩
theorem fl_gd_38 : q_fl "HiredShades$Guild" 38 2 8 8 "[[I" true 2 := ⟨_, rfl, by decide, rfl, rfl, rfl, rfl, by decide, q_in 215 (by decide +kernel) rfl⟩
theorem fl_cr_54 : q_fl "HiredShades$Crews" 54 2 8 8 "[[I" true 2 := ⟨_, rfl, by decide, rfl, rfl, rfl, rfl, by decide, q_in 216 (by decide +kernel) rfl⟩
theorem fl_hs_140 : q_fl "HiredShades" 140 2 8 8 "[[I" true 2 := ⟨_, rfl, by decide, rfl, rfl, rfl, rfl, by decide, q_in 217 (by decide +kernel) rfl⟩
theorem fl_gr_162 : q_fl "HiredShades$GuildReader" 162 2 8 8 "[[I" true 2 := ⟨_, rfl, by decide, rfl, rfl, rfl, rfl, by decide, q_in 218 (by decide +kernel) rfl⟩
theorem fl_ru_122 : q_fl "HiredShades$Rules" 122 2 8 8 "[[I" true 2 := ⟨_, rfl, by decide, rfl, rfl, rfl, rfl, by decide, q_in 219 (by decide +kernel) rfl⟩
theorem fl_gd_41 : q_fl "HiredShades$Guild" 41 2 9 9 "[[I" true 2 := ⟨_, rfl, by decide, rfl, rfl, rfl, rfl, by decide, q_in 220 (by decide +kernel) rfl⟩
theorem fl_cr_80 : q_fl "HiredShades$Crews" 80 2 9 9 "[[I" true 2 := ⟨_, rfl, by decide, rfl, rfl, rfl, rfl, by decide, q_in 221 (by decide +kernel) rfl⟩
theorem fl_hs_152 : q_fl "HiredShades" 152 2 9 9 "[[I" true 2 := ⟨_, rfl, by decide, rfl, rfl, rfl, rfl, by decide, q_in 222 (by decide +kernel) rfl⟩
theorem fl_ru_129 : q_fl "HiredShades$Rules" 129 2 9 9 "[[I" true 2 := ⟨_, rfl, by decide, rfl, rfl, rfl, rfl, by decide, q_in 223 (by decide +kernel) rfl⟩
theorem fl_gd_44 : q_fl "HiredShades$Guild" 44 2 10 10 "[[I" true 2 := ⟨_, rfl, by decide, rfl, rfl, rfl, rfl, by decide, q_in 224 (by decide +kernel) rfl⟩
theorem fl_cr_83 : q_fl "HiredShades$Crews" 83 2 10 10 "[[I" true 2 := ⟨_, rfl, by decide, rfl, rfl, rfl, rfl, by decide, q_in 225 (by decide +kernel) rfl⟩
theorem fl_hs_155 : q_fl "HiredShades" 155 2 10 10 "[[I" true 2 := ⟨_, rfl, by decide, rfl, rfl, rfl, rfl, by decide, q_in 226 (by decide +kernel) rfl⟩
theorem fl_ru_111 : q_fl "HiredShades$Rules" 111 2 10 10 "[[I" true 2 := ⟨_, rfl, by decide, rfl, rfl, rfl, rfl, by decide, q_in 227 (by decide +kernel) rfl⟩
theorem fl_gd_47 : q_fl "HiredShades$Guild" 47 2 11 11 "[I" true 2 := ⟨_, rfl, by decide, rfl, rfl, rfl, rfl, by decide, q_in 228 (by decide +kernel) rfl⟩
theorem fl_ch_23 : q_fl "HiredShades$Chains" 23 2 11 11 "[I" true 2 := ⟨_, rfl, by decide, rfl, rfl, rfl, rfl, by decide, q_in 229 (by decide +kernel) rfl⟩
theorem fl_cr_61 : q_fl "HiredShades$Crews" 61 2 11 11 "[I" true 2 := ⟨_, rfl, by decide, rfl, rfl, rfl, rfl, by decide, q_in 230 (by decide +kernel) rfl⟩
theorem fl_hs_171 : q_fl "HiredShades" 171 2 11 11 "[I" true 2 := ⟨_, rfl, by decide, rfl, rfl, rfl, rfl, by decide, q_in 231 (by decide +kernel) rfl⟩
theorem fl_gd_50 : q_fl "HiredShades$Guild" 50 2 12 12 "[I" true 2 := ⟨_, rfl, by decide, rfl, rfl, rfl, rfl, by decide, q_in 232 (by decide +kernel) rfl⟩
theorem fl_ch_20 : q_fl "HiredShades$Chains" 20 2 12 12 "[I" true 2 := ⟨_, rfl, by decide, rfl, rfl, rfl, rfl, by decide, q_in 233 (by decide +kernel) rfl⟩
theorem fl_gd_53 : q_fl "HiredShades$Guild" 53 2 13 13 "I" false 0 := ⟨_, rfl, by decide, rfl, rfl, rfl, rfl, by decide, q_in 234 (by decide +kernel) rfl⟩
theorem fl_gr_51 : q_fl "HiredShades$GuildReader" 51 2 13 13 "I" false 0 := ⟨_, rfl, by decide, rfl, rfl, rfl, rfl, by decide, q_in 235 (by decide +kernel) rfl⟩
theorem fl_hs_81 : q_fl "HiredShades" 81 2 13 13 "I" false 0 := ⟨_, rfl, by decide, rfl, rfl, rfl, rfl, by decide, q_in 236 (by decide +kernel) rfl⟩
theorem fl_gd_57 : q_fl "HiredShades$Guild" 57 2 14 14 "I" false 0 := ⟨_, rfl, by decide, rfl, rfl, rfl, rfl, by decide, q_in 237 (by decide +kernel) rfl⟩
theorem fl_hs_93 : q_fl "HiredShades" 93 2 14 14 "I" false 0 := ⟨_, rfl, by decide, rfl, rfl, rfl, rfl, by decide, q_in 238 (by decide +kernel) rfl⟩
theorem fl_gr_168 : q_fl "HiredShades$GuildReader" 168 2 14 14 "I" false 0 := ⟨_, rfl, by decide, rfl, rfl, rfl, rfl, by decide, q_in 239 (by decide +kernel) rfl⟩
theorem fl_hs_10 : q_fl "HiredShades" 10 7 0 0 "LHiredShades$Tape;" true 2 := ⟨_, rfl, by decide, rfl, rfl, rfl, rfl, by decide, q_in 271 (by decide +kernel) rfl⟩
theorem fl_hs_21 : q_fl "HiredShades" 21 7 1 1 "LHiredShades$GuildReader;" true 2 := ⟨_, rfl, by decide, rfl, rfl, rfl, rfl, by decide, q_in 272 (by decide +kernel) rfl⟩
theorem fl_hs_28 : q_fl "HiredShades" 28 7 2 2 "LHiredShades$Hires;" true 2 := ⟨_, rfl, by decide, rfl, rfl, rfl, rfl, by decide, q_in 273 (by decide +kernel) rfl⟩
theorem fl_hs_35 : q_fl "HiredShades" 35 7 3 3 "LHiredShades$Chains;" true 2 := ⟨_, rfl, by decide, rfl, rfl, rfl, rfl, by decide, q_in 274 (by decide +kernel) rfl⟩
theorem fl_hs_42 : q_fl "HiredShades" 42 7 4 4 "LHiredShades$Crews;" true 2 := ⟨_, rfl, by decide, rfl, rfl, rfl, rfl, by decide, q_in 275 (by decide +kernel) rfl⟩
theorem fl_hs_46 : q_fl "HiredShades" 46 7 5 5 "[I" true 2 := ⟨_, rfl, by decide, rfl, rfl, rfl, rfl, by decide, q_in 276 (by decide +kernel) rfl⟩
theorem fl_hs_265 : q_fl "HiredShades" 265 7 6 6 "I" false 0 := ⟨_, rfl, by decide, rfl, rfl, rfl, rfl, by decide, q_in 277 (by decide +kernel) rfl⟩
theorem fl_hs_50 : q_fl "HiredShades" 50 7 7 7 "I" false 0 := ⟨_, rfl, by decide, rfl, rfl, rfl, rfl, by decide, q_in 278 (by decide +kernel) rfl⟩
theorem fl_hs_57 : q_fl "HiredShades" 57 7 8 8 "LHiredShades$Guild;" false 2 := ⟨_, rfl, by decide, rfl, rfl, rfl, rfl, by decide, q_in 279 (by decide +kernel) rfl⟩
theorem fl_hs_61 : q_fl "HiredShades" 61 7 9 9 "LHiredShades$Guild;" false 2 := ⟨_, rfl, by decide, rfl, rfl, rfl, rfl, by decide, q_in 280 (by decide +kernel) rfl⟩
theorem fl_mo_7 : q_fl "HiredShadesModel" 7 8 0 0 "[I" true 2 := ⟨_, rfl, by decide, rfl, rfl, rfl, rfl, by decide, q_in 943 (by decide +kernel) rfl⟩
theorem fl_mo_182 : q_fl "HiredShadesModel" 182 8 1 1 "I" false 0 := ⟨_, rfl, by decide, rfl, rfl, rfl, rfl, by decide, q_in 944 (by decide +kernel) rfl⟩
theorem fl_mo_191 : q_fl "HiredShadesModel" 191 8 2 2 "I" false 0 := ⟨_, rfl, by decide, rfl, rfl, rfl, rfl, by decide, q_in 945 (by decide +kernel) rfl⟩
theorem fl_mo_194 : q_fl "HiredShadesModel" 194 8 3 3 "I" false 0 := ⟨_, rfl, by decide, rfl, rfl, rfl, rfl, by decide, q_in 946 (by decide +kernel) rfl⟩
theorem fl_mo_205 : q_fl "HiredShadesModel" 205 8 4 4 "I" false 0 := ⟨_, rfl, by decide, rfl, rfl, rfl, rfl, by decide, q_in 947 (by decide +kernel) rfl⟩
theorem fl_mo_185 : q_fl "HiredShadesModel" 185 8 5 5 "I" false 0 := ⟨_, rfl, by decide, rfl, rfl, rfl, rfl, by decide, q_in 948 (by decide +kernel) rfl⟩
theorem fl_mo_188 : q_fl "HiredShadesModel" 188 8 6 6 "I" false 0 := ⟨_, rfl, by decide, rfl, rfl, rfl, rfl, by decide, q_in 949 (by decide +kernel) rfl⟩
theorem fl_mo_319 : q_fl "HiredShadesModel" 319 8 7 7 "I" false 0 := ⟨_, rfl, by decide, rfl, rfl, rfl, rfl, by decide, q_in 950 (by decide +kernel) rfl⟩
theorem fl_mo_13 : q_fl "HiredShadesModel" 13 8 8 8 "I" false 0 := ⟨_, rfl, by decide, rfl, rfl, rfl, rfl, by decide, q_in 951 (by decide +kernel) rfl⟩
theorem fl_mo_17 : q_fl "HiredShadesModel" 17 8 9 9 "[C" true 2 := ⟨_, rfl, by decide, rfl, rfl, rfl, rfl, by decide, q_in 952 (by decide +kernel) rfl⟩
theorem fl_mo_21 : q_fl "HiredShadesModel" 21 8 10 10 "[C" true 2 := ⟨_, rfl, by decide, rfl, rfl, rfl, rfl, by decide, q_in 953 (by decide +kernel) rfl⟩
theorem fl_mo_24 : q_fl "HiredShadesModel" 24 8 11 11 "[C" true 2 := ⟨_, rfl, by decide, rfl, rfl, rfl, rfl, by decide, q_in 954 (by decide +kernel) rfl⟩
theorem fl_mo_27 : q_fl "HiredShadesModel" 27 8 12 12 "[C" true 2 := ⟨_, rfl, by decide, rfl, rfl, rfl, rfl, by decide, q_in 955 (by decide +kernel) rfl⟩
theorem fl_mo_30 : q_fl "HiredShadesModel" 30 8 13 13 "[C" true 2 := ⟨_, rfl, by decide, rfl, rfl, rfl, rfl, by decide, q_in 956 (by decide +kernel) rfl⟩
theorem fl_mo_33 : q_fl "HiredShadesModel" 33 8 14 14 "[C" true 2 := ⟨_, rfl, by decide, rfl, rfl, rfl, rfl, by decide, q_in 957 (by decide +kernel) rfl⟩
theorem fl_mo_36 : q_fl "HiredShadesModel" 36 8 15 15 "[C" true 2 := ⟨_, rfl, by decide, rfl, rfl, rfl, rfl, by decide, q_in 958 (by decide +kernel) rfl⟩
theorem fl_mo_39 : q_fl "HiredShadesModel" 39 8 16 16 "[C" true 2 := ⟨_, rfl, by decide, rfl, rfl, rfl, rfl, by decide, q_in 959 (by decide +kernel) rfl⟩
theorem fl_mo_42 : q_fl "HiredShadesModel" 42 8 17 17 "[C" true 2 := ⟨_, rfl, by decide, rfl, rfl, rfl, rfl, by decide, q_in 960 (by decide +kernel) rfl⟩
theorem fl_mo_45 : q_fl "HiredShadesModel" 45 8 18 18 "[C" true 2 := ⟨_, rfl, by decide, rfl, rfl, rfl, rfl, by decide, q_in 961 (by decide +kernel) rfl⟩
theorem fl_mo_48 : q_fl "HiredShadesModel" 48 8 19 19 "[C" true 2 := ⟨_, rfl, by decide, rfl, rfl, rfl, rfl, by decide, q_in 962 (by decide +kernel) rfl⟩
theorem fl_mo_51 : q_fl "HiredShadesModel" 51 8 20 20 "[C" true 2 := ⟨_, rfl, by decide, rfl, rfl, rfl, rfl, by decide, q_in 963 (by decide +kernel) rfl⟩
theorem fl_mo_54 : q_fl "HiredShadesModel" 54 8 21 21 "[C" true 2 := ⟨_, rfl, by decide, rfl, rfl, rfl, rfl, by decide, q_in 964 (by decide +kernel) rfl⟩
theorem fl_mo_57 : q_fl "HiredShadesModel" 57 8 22 22 "[C" true 2 := ⟨_, rfl, by decide, rfl, rfl, rfl, rfl, by decide, q_in 965 (by decide +kernel) rfl⟩
theorem fl_mo_60 : q_fl "HiredShadesModel" 60 8 23 23 "[C" true 2 := ⟨_, rfl, by decide, rfl, rfl, rfl, rfl, by decide, q_in 966 (by decide +kernel) rfl⟩
theorem fl_mo_63 : q_fl "HiredShadesModel" 63 8 24 24 "[C" true 2 := ⟨_, rfl, by decide, rfl, rfl, rfl, rfl, by decide, q_in 967 (by decide +kernel) rfl⟩
theorem fl_mo_66 : q_fl "HiredShadesModel" 66 8 25 25 "[C" true 2 := ⟨_, rfl, by decide, rfl, rfl, rfl, rfl, by decide, q_in 968 (by decide +kernel) rfl⟩
theorem fl_mo_69 : q_fl "HiredShadesModel" 69 8 26 26 "[C" true 2 := ⟨_, rfl, by decide, rfl, rfl, rfl, rfl, by decide, q_in 969 (by decide +kernel) rfl⟩
theorem fl_mo_72 : q_fl "HiredShadesModel" 72 8 27 27 "[C" true 2 := ⟨_, rfl, by decide, rfl, rfl, rfl, rfl, by decide, q_in 970 (by decide +kernel) rfl⟩
theorem fl_mo_75 : q_fl "HiredShadesModel" 75 8 28 28 "[C" true 2 := ⟨_, rfl, by decide, rfl, rfl, rfl, rfl, by decide, q_in 971 (by decide +kernel) rfl⟩
theorem fl_mo_78 : q_fl "HiredShadesModel" 78 8 29 29 "[C" true 2 := ⟨_, rfl, by decide, rfl, rfl, rfl, rfl, by decide, q_in 972 (by decide +kernel) rfl⟩
theorem fl_mo_81 : q_fl "HiredShadesModel" 81 8 30 30 "[C" true 2 := ⟨_, rfl, by decide, rfl, rfl, rfl, rfl, by decide, q_in 973 (by decide +kernel) rfl⟩
theorem fl_mo_84 : q_fl "HiredShadesModel" 84 8 31 31 "[C" true 2 := ⟨_, rfl, by decide, rfl, rfl, rfl, rfl, by decide, q_in 974 (by decide +kernel) rfl⟩
theorem fl_mo_87 : q_fl "HiredShadesModel" 87 8 32 32 "[C" true 2 := ⟨_, rfl, by decide, rfl, rfl, rfl, rfl, by decide, q_in 975 (by decide +kernel) rfl⟩
theorem fl_mo_90 : q_fl "HiredShadesModel" 90 8 33 33 "[C" true 2 := ⟨_, rfl, by decide, rfl, rfl, rfl, rfl, by decide, q_in 976 (by decide +kernel) rfl⟩
theorem fl_mo_233 : q_fl "HiredShadesModel" 233 8 34 34 "I" false 0 := ⟨_, rfl, by decide, rfl, rfl, rfl, rfl, by decide, q_in 977 (by decide +kernel) rfl⟩
theorem fl_mo_93 : q_fl "HiredShadesModel" 93 8 35 35 "[I" true 2 := ⟨_, rfl, by decide, rfl, rfl, rfl, rfl, by decide, q_in 978 (by decide +kernel) rfl⟩
theorem fl_mo_96 : q_fl "HiredShadesModel" 96 8 36 36 "[J" true 2 := ⟨_, rfl, by decide, rfl, rfl, rfl, rfl, by decide, q_in 979 (by decide +kernel) rfl⟩
theorem fl_mo_100 : q_fl "HiredShadesModel" 100 8 37 37 "[I" true 2 := ⟨_, rfl, by decide, rfl, rfl, rfl, rfl, by decide, q_in 980 (by decide +kernel) rfl⟩
theorem fl_mo_103 : q_fl "HiredShadesModel" 103 8 38 38 "[I" true 2 := ⟨_, rfl, by decide, rfl, rfl, rfl, rfl, by decide, q_in 981 (by decide +kernel) rfl⟩
theorem fl_mo_106 : q_fl "HiredShadesModel" 106 8 39 39 "[I" true 2 := ⟨_, rfl, by decide, rfl, rfl, rfl, rfl, by decide, q_in 982 (by decide +kernel) rfl⟩
theorem fl_mo_109 : q_fl "HiredShadesModel" 109 8 40 40 "[I" true 2 := ⟨_, rfl, by decide, rfl, rfl, rfl, rfl, by decide, q_in 983 (by decide +kernel) rfl⟩
theorem fl_mo_112 : q_fl "HiredShadesModel" 112 8 41 41 "[I" true 2 := ⟨_, rfl, by decide, rfl, rfl, rfl, rfl, by decide, q_in 984 (by decide +kernel) rfl⟩
theorem fl_mo_115 : q_fl "HiredShadesModel" 115 8 42 42 "[I" true 2 := ⟨_, rfl, by decide, rfl, rfl, rfl, rfl, by decide, q_in 985 (by decide +kernel) rfl⟩
theorem fl_mo_118 : q_fl "HiredShadesModel" 118 8 43 43 "[I" true 2 := ⟨_, rfl, by decide, rfl, rfl, rfl, rfl, by decide, q_in 986 (by decide +kernel) rfl⟩
theorem fl_mo_310 : q_fl "HiredShadesModel" 310 8 44 44 "I" false 0 := ⟨_, rfl, by decide, rfl, rfl, rfl, rfl, by decide, q_in 987 (by decide +kernel) rfl⟩
theorem fl_mo_325 : q_fl "HiredShadesModel" 325 8 45 45 "I" false 0 := ⟨_, rfl, by decide, rfl, rfl, rfl, rfl, by decide, q_in 988 (by decide +kernel) rfl⟩
theorem fl_mo_264 : q_fl "HiredShadesModel" 264 8 46 46 "I" false 0 := ⟨_, rfl, by decide, rfl, rfl, rfl, rfl, by decide, q_in 989 (by decide +kernel) rfl⟩
theorem fl_mo_121 : q_fl "HiredShadesModel" 121 8 47 47 "[I" true 2 := ⟨_, rfl, by decide, rfl, rfl, rfl, rfl, by decide, q_in 990 (by decide +kernel) rfl⟩
theorem fl_mo_274 : q_fl "HiredShadesModel" 274 8 48 48 "I" false 0 := ⟨_, rfl, by decide, rfl, rfl, rfl, rfl, by decide, q_in 991 (by decide +kernel) rfl⟩
theorem fl_mo_124 : q_fl "HiredShadesModel" 124 8 49 49 "[I" true 2 := ⟨_, rfl, by decide, rfl, rfl, rfl, rfl, by decide, q_in 992 (by decide +kernel) rfl⟩
theorem fl_mo_277 : q_fl "HiredShadesModel" 277 8 50 50 "I" false 0 := ⟨_, rfl, by decide, rfl, rfl, rfl, rfl, by decide, q_in 993 (by decide +kernel) rfl⟩
theorem fl_mo_280 : q_fl "HiredShadesModel" 280 8 51 51 "I" false 0 := ⟨_, rfl, by decide, rfl, rfl, rfl, rfl, by decide, q_in 994 (by decide +kernel) rfl⟩
theorem fl_mo_127 : q_fl "HiredShadesModel" 127 8 52 52 "[I" true 2 := ⟨_, rfl, by decide, rfl, rfl, rfl, rfl, by decide, q_in 995 (by decide +kernel) rfl⟩
theorem fl_mo_130 : q_fl "HiredShadesModel" 130 8 53 53 "[I" true 2 := ⟨_, rfl, by decide, rfl, rfl, rfl, rfl, by decide, q_in 996 (by decide +kernel) rfl⟩
theorem fl_mo_133 : q_fl "HiredShadesModel" 133 8 54 54 "[I" true 2 := ⟨_, rfl, by decide, rfl, rfl, rfl, rfl, by decide, q_in 997 (by decide +kernel) rfl⟩
theorem fl_mo_283 : q_fl "HiredShadesModel" 283 8 55 55 "I" false 0 := ⟨_, rfl, by decide, rfl, rfl, rfl, rfl, by decide, q_in 998 (by decide +kernel) rfl⟩
theorem fl_mo_136 : q_fl "HiredShadesModel" 136 8 56 56 "[J" true 2 := ⟨_, rfl, by decide, rfl, rfl, rfl, rfl, by decide, q_in 999 (by decide +kernel) rfl⟩
theorem fl_mo_390 : q_fl "HiredShadesModel" 390 8 57 57 "I" false 0 := ⟨_, rfl, by decide, rfl, rfl, rfl, rfl, by decide, q_in 1000 (by decide +kernel) rfl⟩
theorem fl_mo_139 : q_fl "HiredShadesModel" 139 8 58 58 "[I" true 2 := ⟨_, rfl, by decide, rfl, rfl, rfl, rfl, by decide, q_in 1001 (by decide +kernel) rfl⟩
theorem fl_mo_142 : q_fl "HiredShadesModel" 142 8 59 59 "[I" true 2 := ⟨_, rfl, by decide, rfl, rfl, rfl, rfl, by decide, q_in 1002 (by decide +kernel) rfl⟩
theorem fl_mo_145 : q_fl "HiredShadesModel" 145 8 60 60 "[I" true 2 := ⟨_, rfl, by decide, rfl, rfl, rfl, rfl, by decide, q_in 1003 (by decide +kernel) rfl⟩
theorem fl_mo_148 : q_fl "HiredShadesModel" 148 8 61 61 "[I" true 2 := ⟨_, rfl, by decide, rfl, rfl, rfl, rfl, by decide, q_in 1004 (by decide +kernel) rfl⟩
theorem fl_mo_151 : q_fl "HiredShadesModel" 151 8 62 62 "[I" true 2 := ⟨_, rfl, by decide, rfl, rfl, rfl, rfl, by decide, q_in 1005 (by decide +kernel) rfl⟩
theorem fl_mo_154 : q_fl "HiredShadesModel" 154 8 63 63 "[I" true 2 := ⟨_, rfl, by decide, rfl, rfl, rfl, rfl, by decide, q_in 1006 (by decide +kernel) rfl⟩
theorem fl_mo_341 : q_fl "HiredShadesModel" 341 8 64 64 "I" false 0 := ⟨_, rfl, by decide, rfl, rfl, rfl, rfl, by decide, q_in 1007 (by decide +kernel) rfl⟩
theorem fl_mo_437 : q_fl "HiredShadesModel" 437 8 65 65 "I" false 0 := ⟨_, rfl, by decide, rfl, rfl, rfl, rfl, by decide, q_in 1008 (by decide +kernel) rfl⟩
theorem fl_mo_157 : q_fl "HiredShadesModel" 157 8 66 66 "[I" true 2 := ⟨_, rfl, by decide, rfl, rfl, rfl, rfl, by decide, q_in 1009 (by decide +kernel) rfl⟩
theorem fl_mo_160 : q_fl "HiredShadesModel" 160 8 67 67 "[I" true 2 := ⟨_, rfl, by decide, rfl, rfl, rfl, rfl, by decide, q_in 1010 (by decide +kernel) rfl⟩
theorem fl_mo_163 : q_fl "HiredShadesModel" 163 8 68 68 "[I" true 2 := ⟨_, rfl, by decide, rfl, rfl, rfl, rfl, by decide, q_in 1011 (by decide +kernel) rfl⟩
theorem fl_mo_491 : q_fl "HiredShadesModel" 491 8 69 69 "I" false 0 := ⟨_, rfl, by decide, rfl, rfl, rfl, rfl, by decide, q_in 1012 (by decide +kernel) rfl⟩
theorem fl_mo_166 : q_fl "HiredShadesModel" 166 8 70 70 "[I" true 2 := ⟨_, rfl, by decide, rfl, rfl, rfl, rfl, by decide, q_in 1013 (by decide +kernel) rfl⟩
theorem fl_mo_169 : q_fl "HiredShadesModel" 169 8 71 71 "[I" true 2 := ⟨_, rfl, by decide, rfl, rfl, rfl, rfl, by decide, q_in 1014 (by decide +kernel) rfl⟩
theorem fl_mo_172 : q_fl "HiredShadesModel" 172 8 72 72 "[I" true 2 := ⟨_, rfl, by decide, rfl, rfl, rfl, rfl, by decide, q_in 1015 (by decide +kernel) rfl⟩
theorem fl_mo_175 : q_fl "HiredShadesModel" 175 8 73 73 "J" false 1 := ⟨_, rfl, by decide, rfl, rfl, rfl, rfl, by decide, q_in 1016 (by decide +kernel) rfl⟩
theorem fl_mo_179 : q_fl "HiredShadesModel" 179 8 74 74 "[I" true 2 := ⟨_, rfl, by decide, rfl, rfl, rfl, rfl, by decide, q_in 1017 (by decide +kernel) rfl⟩
theorem fl_mo_532 : q_fl "HiredShadesModel" 532 8 75 75 "I" false 0 := ⟨_, rfl, by decide, rfl, rfl, rfl, rfl, by decide, q_in 1018 (by decide +kernel) rfl⟩
/-! methods -/
def m_ch_init : q_M := (⟨"HiredShades$Chains", "<init>", "()V"⟩, prog_2_method_1_code, 1, (Option.none : Option Jvm.ClassFile.FieldType), 1, 1, 24)
def m_ch_longest : q_M := (⟨"HiredShades$Chains", "longest", "(LHiredShades$Guild;I)I"⟩, prog_2_method_2_code, 6, (Option.some Jvm.ClassFile.FieldType.int), 3, 0, 0)
def m_ch_longestAhead : q_M := (⟨"HiredShades$Chains", "longestAhead", "(LHiredShades$Guild;II)I"⟩, prog_2_method_3_code, 7, (Option.some Jvm.ClassFile.FieldType.int), 2, 0, 0)
def m_ch_firstLongest : q_M := (⟨"HiredShades$Chains", "firstLongest", "(LHiredShades$Guild;I)I"⟩, prog_2_method_4_code, 8, (Option.some Jvm.ClassFile.FieldType.int), 4, 0, 0)
def m_cr_init : q_M := (⟨"HiredShades$Crews", "<init>", "()V"⟩, prog_3_method_1_code, 1, (Option.none : Option Jvm.ClassFile.FieldType), 1, 4, 527)
def m_cr_choose : q_M := (⟨"HiredShades$Crews", "choose", "(II)Z"⟩, prog_3_method_2_code, 4, (Option.some Jvm.ClassFile.FieldType.boolean), 2, 0, 0)
def m_cr_countWays : q_M := (⟨"HiredShades$Crews", "countWays", "(LHiredShades$Guild;LHiredShades$Hires;I)I"⟩, prog_3_method_3_code, 6, (Option.some Jvm.ClassFile.FieldType.int), 3, 0, 0)
def m_cr_sets : q_M := (⟨"HiredShades$Crews", "sets", "()I"⟩, prog_3_method_4_code, 1, (Option.some Jvm.ClassFile.FieldType.int), 1, 0, 0)
def m_cr_fillWithPersons : q_M := (⟨"HiredShades$Crews", "fillWithPersons", "(LHiredShades$Guild;)V"⟩, prog_3_method_5_code, 7, (Option.none : Option Jvm.ClassFile.FieldType), 2, 0, 0)
def m_cr_chosenAmong : q_M := (⟨"HiredShades$Crews", "chosenAmong", "(I)I"⟩, prog_3_method_6_code, 4, (Option.some Jvm.ClassFile.FieldType.int), 1, 0, 0)
def m_cr_waysWithPart : q_M := (⟨"HiredShades$Crews", "waysWithPart", "(I)I"⟩, prog_3_method_7_code, 4, (Option.some Jvm.ClassFile.FieldType.int), 1, 0, 0)
def m_cr_findCheapest : q_M := (⟨"HiredShades$Crews", "findCheapest", "(LHiredShades$Guild;LHiredShades$Hires;I)Z"⟩, prog_3_method_8_code, 7, (Option.some Jvm.ClassFile.FieldType.boolean), 3, 0, 0)
def m_cr_cheapestWithPart : q_M := (⟨"HiredShades$Crews", "cheapestWithPart", "(I)I"⟩, prog_3_method_9_code, 5, (Option.some Jvm.ClassFile.FieldType.int), 1, 0, 0)
def m_cr_fillPart : q_M := (⟨"HiredShades$Crews", "fillPart", "(LHiredShades$Guild;LHiredShades$Hires;IIZ)V"⟩, prog_3_method_10_code, 15, (Option.none : Option Jvm.ClassFile.FieldType), 2, 0, 0)
def m_gd_init : q_M := (⟨"HiredShades$Guild", "<init>", "()V"⟩, prog_4_method_1_code, 1, (Option.none : Option Jvm.ClassFile.FieldType), 1, 83, 706)
def m_gd_clear : q_M := (⟨"HiredShades$Guild", "clear", "()V"⟩, prog_4_method_2_code, 3, (Option.none : Option Jvm.ClassFile.FieldType), 1, 0, 0)
def m_gd_hasRoom : q_M := (⟨"HiredShades$Guild", "hasRoom", "(I)Z"⟩, prog_4_method_3_code, 2, (Option.some Jvm.ClassFile.FieldType.boolean), 1, 0, 0)
def m_gd_isThere : q_M := (⟨"HiredShades$Guild", "isThere", "(II)Z"⟩, prog_4_method_4_code, 3, (Option.some Jvm.ClassFile.FieldType.boolean), 1, 0, 0)
def m_gd_named : q_M := (⟨"HiredShades$Guild", "named", "(II)I"⟩, prog_4_method_5_code, 4, (Option.some Jvm.ClassFile.FieldType.int), 1, 0, 0)
def m_gd_isGiven : q_M := (⟨"HiredShades$Guild", "isGiven", "(I)Z"⟩, prog_4_method_6_code, 3, (Option.some Jvm.ClassFile.FieldType.boolean), 2, 0, 0)
def m_gd_addNamed : q_M := (⟨"HiredShades$Guild", "addNamed", "(II)V"⟩, prog_4_method_7_code, 3, (Option.none : Option Jvm.ClassFile.FieldType), 2, 0, 0)
def m_gd_addRoad : q_M := (⟨"HiredShades$Guild", "addRoad", "(III)V"⟩, prog_4_method_8_code, 5, (Option.none : Option Jvm.ClassFile.FieldType), 2, 0, 0)
def m_gd_settle : q_M := (⟨"HiredShades$Guild", "settle", "()V"⟩, prog_4_method_9_code, 3, (Option.none : Option Jvm.ClassFile.FieldType), 3, 0, 0)
def m_gd_joinRoads : q_M := (⟨"HiredShades$Guild", "joinRoads", "()V"⟩, prog_4_method_10_code, 5, (Option.none : Option Jvm.ClassFile.FieldType), 2, 0, 0)
def m_gd_sortByHour : q_M := (⟨"HiredShades$Guild", "sortByHour", "()V"⟩, prog_4_method_11_code, 3, (Option.none : Option Jvm.ClassFile.FieldType), 1, 0, 0)
def m_gd_near : q_M := (⟨"HiredShades$Guild", "near", "(II)I"⟩, prog_4_method_12_code, 6, (Option.some Jvm.ClassFile.FieldType.int), 2, 0, 0)
def m_gd_passOf : q_M := (⟨"HiredShades$Guild", "passOf", "(II)I"⟩, prog_4_method_13_code, 7, (Option.some Jvm.ClassFile.FieldType.int), 1, 0, 0)
def m_gd_unlikeTraits : q_M := (⟨"HiredShades$Guild", "unlikeTraits", "(II)I"⟩, prog_4_method_14_code, 6, (Option.some Jvm.ClassFile.FieldType.int), 1, 0, 0)
def m_gd_titheOf : q_M := (⟨"HiredShades$Guild", "titheOf", "(II)I"⟩, prog_4_method_15_code, 3, (Option.some Jvm.ClassFile.FieldType.int), 1, 0, 0)
def m_gd_allSightings : q_M := (⟨"HiredShades$Guild", "allSightings", "()I"⟩, prog_4_method_16_code, 1, (Option.some Jvm.ClassFile.FieldType.int), 1, 0, 0)
def m_gd_sightingsOf : q_M := (⟨"HiredShades$Guild", "sightingsOf", "(I)I"⟩, prog_4_method_17_code, 4, (Option.some Jvm.ClassFile.FieldType.int), 1, 0, 0)
def m_gd_firstByHour : q_M := (⟨"HiredShades$Guild", "firstByHour", "(I)I"⟩, prog_4_method_18_code, 3, (Option.some Jvm.ClassFile.FieldType.int), 1, 0, 0)
def m_gd_hoursAlong : q_M := (⟨"HiredShades$Guild", "hoursAlong", "(I)I"⟩, prog_4_method_19_code, 5, (Option.some Jvm.ClassFile.FieldType.int), 2, 0, 0)
def m_gr_init : q_M := (⟨"HiredShades$GuildReader", "<init>", "(LHiredShades$Tape;)V"⟩, prog_5_method_1_code, 2, (Option.none : Option Jvm.ClassFile.FieldType), 2, 6, 1710)
def m_gr_read : q_M := (⟨"HiredShades$GuildReader", "read", "(LHiredShades$Guild;)Z"⟩, prog_5_method_2_code, 3, (Option.some Jvm.ClassFile.FieldType.boolean), 75, 0, 0)
def m_gr_settle : q_M := (⟨"HiredShades$GuildReader", "settle", "()V"⟩, prog_5_method_3_code, 1, (Option.none : Option Jvm.ClassFile.FieldType), 7, 0, 0)
def m_gr_readStatement : q_M := (⟨"HiredShades$GuildReader", "readStatement", "(Z)Z"⟩, prog_5_method_4_code, 3, (Option.some Jvm.ClassFile.FieldType.boolean), 74, 0, 0)
def m_gr_begin : q_M := (⟨"HiredShades$GuildReader", "begin", "(I)Z"⟩, prog_5_method_5_code, 2, (Option.some Jvm.ClassFile.FieldType.boolean), 2, 0, 0)
def m_gr_readTraits : q_M := (⟨"HiredShades$GuildReader", "readTraits", "()Z"⟩, prog_5_method_6_code, 4, (Option.some Jvm.ClassFile.FieldType.boolean), 9, 0, 0)
def m_gr_readPerson : q_M := (⟨"HiredShades$GuildReader", "readPerson", "()Z"⟩, prog_5_method_7_code, 2, (Option.some Jvm.ClassFile.FieldType.boolean), 9, 0, 0)
def m_gr_readShade : q_M := (⟨"HiredShades$GuildReader", "readShade", "()Z"⟩, prog_5_method_8_code, 2, (Option.some Jvm.ClassFile.FieldType.boolean), 9, 0, 0)
def m_gr_readRoad : q_M := (⟨"HiredShades$GuildReader", "readRoad", "()Z"⟩, prog_5_method_9_code, 3, (Option.some Jvm.ClassFile.FieldType.boolean), 9, 0, 0)
def m_gr_readSeen : q_M := (⟨"HiredShades$GuildReader", "readSeen", "()Z"⟩, prog_5_method_10_code, 3, (Option.some Jvm.ClassFile.FieldType.boolean), 9, 0, 0)
def m_gr_readTithe : q_M := (⟨"HiredShades$GuildReader", "readTithe", "()Z"⟩, prog_5_method_11_code, 1, (Option.some Jvm.ClassFile.FieldType.boolean), 3, 0, 0)
def m_gr_readNumber : q_M := (⟨"HiredShades$GuildReader", "readNumber", "([IIII)Z"⟩, prog_5_method_12_code, 5, (Option.some Jvm.ClassFile.FieldType.boolean), 3, 0, 0)
def m_gr_readForTraits : q_M := (⟨"HiredShades$GuildReader", "readForTraits", "([II)Z"⟩, prog_5_method_13_code, 4, (Option.some Jvm.ClassFile.FieldType.boolean), 4, 0, 0)
def m_gr_readNewName : q_M := (⟨"HiredShades$GuildReader", "readNewName", "(I)Z"⟩, prog_5_method_14_code, 2, (Option.some Jvm.ClassFile.FieldType.boolean), 8, 0, 0)
def m_gr_readKnownName : q_M := (⟨"HiredShades$GuildReader", "readKnownName", "(I)Z"⟩, prog_5_method_15_code, 2, (Option.some Jvm.ClassFile.FieldType.boolean), 8, 0, 0)
def m_hi_init : q_M := (⟨"HiredShades$Hires", "<init>", "()V"⟩, prog_6_method_1_code, 1, (Option.none : Option Jvm.ClassFile.FieldType), 2, 32, 774)
def m_hi_clear : q_M := (⟨"HiredShades$Hires", "clear", "()V"⟩, prog_6_method_2_code, 2, (Option.none : Option Jvm.ClassFile.FieldType), 1, 0, 0)
def m_hi_held : q_M := (⟨"HiredShades$Hires", "held", "(II)I"⟩, prog_6_method_3_code, 5, (Option.some Jvm.ClassFile.FieldType.int), 1, 0, 0)
def m_hi_remember : q_M := (⟨"HiredShades$Hires", "remember", "()V"⟩, prog_6_method_4_code, 2, (Option.none : Option Jvm.ClassFile.FieldType), 2, 0, 0)
def m_hi_takeBack : q_M := (⟨"HiredShades$Hires", "takeBack", "()Z"⟩, prog_6_method_5_code, 2, (Option.some Jvm.ClassFile.FieldType.boolean), 2, 0, 0)
def m_ru_init : q_M := (⟨"HiredShades$Rules", "<init>", "(LHiredShades$Tape;)V"⟩, prog_7_method_1_code, 2, (Option.none : Option Jvm.ClassFile.FieldType), 1, 5, 1702)
def m_ru_clear : q_M := (⟨"HiredShades$Rules", "clear", "()V"⟩, prog_7_method_2_code, 1, (Option.none : Option Jvm.ClassFile.FieldType), 1, 0, 0)
def m_ru_readRule : q_M := (⟨"HiredShades$Rules", "readRule", "(LHiredShades$Guild;)Z"⟩, prog_7_method_3_code, 3, (Option.some Jvm.ClassFile.FieldType.boolean), 73, 0, 0)
def m_ru_emit : q_M := (⟨"HiredShades$Rules", "emit", "(I)Z"⟩, prog_7_method_4_code, 2, (Option.some Jvm.ClassFile.FieldType.boolean), 1, 0, 0)
def m_ru_readTest (d : Nat) : q_M := (⟨"HiredShades$Rules", "readTest", "(I)Z"⟩, prog_7_method_5_code, 3, (Option.some Jvm.ClassFile.FieldType.boolean), d, 0, 0)
def m_ru_readBoth (d : Nat) : q_M := (⟨"HiredShades$Rules", "readBoth", "(I)Z"⟩, prog_7_method_6_code, 3, (Option.some Jvm.ClassFile.FieldType.boolean), d, 0, 0)
def m_ru_readFact (d : Nat) : q_M := (⟨"HiredShades$Rules", "readFact", "(I)Z"⟩, prog_7_method_7_code, 4, (Option.some Jvm.ClassFile.FieldType.boolean), d, 0, 0)
def m_ru_readSum (d : Nat) : q_M := (⟨"HiredShades$Rules", "readSum", "(I)Z"⟩, prog_7_method_8_code, 4, (Option.some Jvm.ClassFile.FieldType.boolean), d, 0, 0)
def m_ru_readProduct (d : Nat) : q_M := (⟨"HiredShades$Rules", "readProduct", "(I)Z"⟩, prog_7_method_9_code, 4, (Option.some Jvm.ClassFile.FieldType.boolean), d, 0, 0)
def m_ru_readPart (d : Nat) : q_M := (⟨"HiredShades$Rules", "readPart", "(I)Z"⟩, prog_7_method_10_code, 4, (Option.some Jvm.ClassFile.FieldType.boolean), d, 0, 0)
def m_ru_readOfTwo (d : Nat) : q_M := (⟨"HiredShades$Rules", "readOfTwo", "(I)Z"⟩, prog_7_method_11_code, 2, (Option.some Jvm.ClassFile.FieldType.boolean), d, 0, 0)
def m_ru_mayOpen : q_M := (⟨"HiredShades$Rules", "mayOpen", "(I)Z"⟩, prog_7_method_12_code, 2, (Option.some Jvm.ClassFile.FieldType.boolean), 2, 0, 0)
def m_ru_setPrices : q_M := (⟨"HiredShades$Rules", "setPrices", "(LHiredShades$Guild;)V"⟩, prog_7_method_13_code, 4, (Option.none : Option Jvm.ClassFile.FieldType), 6, 0, 0)
def m_ru_priceOf : q_M := (⟨"HiredShades$Rules", "priceOf", "(LHiredShades$Guild;II)I"⟩, prog_7_method_14_code, 5, (Option.some Jvm.ClassFile.FieldType.int), 5, 0, 0)
def m_ru_reckon : q_M := (⟨"HiredShades$Rules", "reckon", "(II)I"⟩, prog_7_method_15_code, 5, (Option.some Jvm.ClassFile.FieldType.int), 4, 0, 0)
def m_ru_push : q_M := (⟨"HiredShades$Rules", "push", "(I)V"⟩, prog_7_method_16_code, 2, (Option.none : Option Jvm.ClassFile.FieldType), 1, 0, 0)
def m_ru_pop : q_M := (⟨"HiredShades$Rules", "pop", "()I"⟩, prog_7_method_17_code, 1, (Option.some Jvm.ClassFile.FieldType.int), 1, 0, 0)
def m_ru_doWord : q_M := (⟨"HiredShades$Rules", "doWord", "(I)V"⟩, prog_7_method_18_code, 2, (Option.none : Option Jvm.ClassFile.FieldType), 2, 0, 0)
def m_ru_doSign : q_M := (⟨"HiredShades$Rules", "doSign", "(III)V"⟩, prog_7_method_19_code, 4, (Option.none : Option Jvm.ClassFile.FieldType), 3, 0, 0)
def m_ru_bounded : q_M := (⟨"HiredShades$Rules", "bounded", "(J)I"⟩, prog_7_method_20_code, 2, (Option.some Jvm.ClassFile.FieldType.int), 2, 0, 0)
def m_tp_init : q_M := (⟨"HiredShades$Tape", "<init>", "()V"⟩, prog_8_method_1_code, 1, (Option.none : Option Jvm.ClassFile.FieldType), 1, 1, 1600)
def m_tp_append : q_M := (⟨"HiredShades$Tape", "append", "(I)V"⟩, prog_8_method_2_code, 3, (Option.none : Option Jvm.ClassFile.FieldType), 1, 0, 0)
def m_tp_rewind : q_M := (⟨"HiredShades$Tape", "rewind", "()V"⟩, prog_8_method_3_code, 1, (Option.none : Option Jvm.ClassFile.FieldType), 1, 0, 0)
def m_tp_fail : q_M := (⟨"HiredShades$Tape", "fail", "(II)Z"⟩, prog_8_method_4_code, 3, (Option.some Jvm.ClassFile.FieldType.boolean), 1, 0, 0)
def m_tp_failHere : q_M := (⟨"HiredShades$Tape", "failHere", "()Z"⟩, prog_8_method_5_code, 1, (Option.some Jvm.ClassFile.FieldType.boolean), 2, 0, 0)
def m_tp_skipBlanks : q_M := (⟨"HiredShades$Tape", "skipBlanks", "()I"⟩, prog_8_method_6_code, 1, (Option.some Jvm.ClassFile.FieldType.int), 1, 0, 0)
def m_tp_takeSign : q_M := (⟨"HiredShades$Tape", "takeSign", "(I)Z"⟩, prog_8_method_7_code, 2, (Option.some Jvm.ClassFile.FieldType.boolean), 2, 0, 0)
def m_tp_passOver : q_M := (⟨"HiredShades$Tape", "passOver", "(I)Z"⟩, prog_8_method_8_code, 2, (Option.some Jvm.ClassFile.FieldType.boolean), 2, 0, 0)
def m_tp_wordHere : q_M := (⟨"HiredShades$Tape", "wordHere", "()I"⟩, prog_8_method_9_code, 5, (Option.some Jvm.ClassFile.FieldType.int), 6, 0, 0)
def m_tp_takeWord : q_M := (⟨"HiredShades$Tape", "takeWord", "(I)Z"⟩, prog_8_method_10_code, 2, (Option.some Jvm.ClassFile.FieldType.boolean), 7, 0, 0)
def m_tp_passOverWord : q_M := (⟨"HiredShades$Tape", "passOverWord", "(I)Z"⟩, prog_8_method_11_code, 2, (Option.some Jvm.ClassFile.FieldType.boolean), 7, 0, 0)
def m_tp_takeWordHere : q_M := (⟨"HiredShades$Tape", "takeWordHere", "()Z"⟩, prog_8_method_12_code, 1, (Option.some Jvm.ClassFile.FieldType.boolean), 1, 0, 0)
def m_tp_takeNumber : q_M := (⟨"HiredShades$Tape", "takeNumber", "(II)Z"⟩, prog_8_method_13_code, 3, (Option.some Jvm.ClassFile.FieldType.boolean), 2, 0, 0)
def m_tp_takeName : q_M := (⟨"HiredShades$Tape", "takeName", "()Z"⟩, prog_8_method_14_code, 2, (Option.some Jvm.ClassFile.FieldType.boolean), 7, 0, 0)
def m_tp_letterOf : q_M := (⟨"HiredShades$Tape", "letterOf", "(II)I"⟩, prog_8_method_15_code, 2, (Option.some Jvm.ClassFile.FieldType.int), 1, 0, 0)
def m_tp_isDigit : q_M := (⟨"HiredShades$Tape", "isDigit", "(I)Z"⟩, prog_8_method_16_code, 1, (Option.some Jvm.ClassFile.FieldType.boolean), 1, 0, 0)
def m_tp_isLetter : q_M := (⟨"HiredShades$Tape", "isLetter", "(I)Z"⟩, prog_8_method_17_code, 1, (Option.some Jvm.ClassFile.FieldType.boolean), 1, 0, 0)
def m_hs_init : q_M := (⟨"HiredShades", "<init>", "()V"⟩, prog_1_method_1_code, 1, (Option.none : Option Jvm.ClassFile.FieldType), 3, 218, 6125)
def m_hs_feed : q_M := (⟨"HiredShades", "feed", "(IIIII)I"⟩, prog_1_method_2_code, 6, (Option.some Jvm.ClassFile.FieldType.int), 2, 0, 0)
def m_hs_end : q_M := (⟨"HiredShades", "end", "(I)Z"⟩, prog_1_method_3_code, 2, (Option.some Jvm.ClassFile.FieldType.boolean), 1, 0, 0)
def m_hs_guild : q_M := (⟨"HiredShades", "guild", "()I"⟩, prog_1_method_4_code, 3, (Option.some Jvm.ClassFile.FieldType.int), 76, 0, 0)
def m_hs_fault : q_M := (⟨"HiredShades", "fault", "(I)I"⟩, prog_1_method_5_code, 2, (Option.some Jvm.ClassFile.FieldType.int), 1, 0, 0)
def m_hs_has : q_M := (⟨"HiredShades", "has", "(I)I"⟩, prog_1_method_6_code, 2, (Option.some Jvm.ClassFile.FieldType.int), 4, 0, 0)
def m_hs_letter : q_M := (⟨"HiredShades", "letter", "(III)I"⟩, prog_1_method_7_code, 4, (Option.some Jvm.ClassFile.FieldType.int), 2, 0, 0)
def m_hs_trait : q_M := (⟨"HiredShades", "trait", "(III)I"⟩, prog_1_method_8_code, 4, (Option.some Jvm.ClassFile.FieldType.int), 2, 0, 0)
def m_hs_seen : q_M := (⟨"HiredShades", "seen", "(II)I"⟩, prog_1_method_9_code, 3, (Option.some Jvm.ClassFile.FieldType.int), 3, 0, 0)
def m_hs_far : q_M := (⟨"HiredShades", "far", "(II)I"⟩, prog_1_method_10_code, 4, (Option.some Jvm.ClassFile.FieldType.int), 2, 0, 0)
def m_hs_pass : q_M := (⟨"HiredShades", "pass", "(II)I"⟩, prog_1_method_11_code, 3, (Option.some Jvm.ClassFile.FieldType.int), 3, 0, 0)
def m_hs_price : q_M := (⟨"HiredShades", "price", "(II)I"⟩, prog_1_method_12_code, 3, (Option.some Jvm.ClassFile.FieldType.int), 3, 0, 0)
def m_hs_best : q_M := (⟨"HiredShades", "best", "(IZI)I"⟩, prog_1_method_13_code, 6, (Option.some Jvm.ClassFile.FieldType.int), 3, 0, 0)
def m_hs_isBetter : q_M := (⟨"HiredShades", "isBetter", "(IIIZ)Z"⟩, prog_1_method_14_code, 5, (Option.some Jvm.ClassFile.FieldType.boolean), 1, 0, 0)
def m_hs_whose : q_M := (⟨"HiredShades", "whose", "(II)I"⟩, prog_1_method_15_code, 5, (Option.some Jvm.ClassFile.FieldType.int), 6, 0, 0)
def m_hs_weightOf : q_M := (⟨"HiredShades", "weightOf", "(II)I"⟩, prog_1_method_16_code, 6, (Option.some Jvm.ClassFile.FieldType.int), 5, 0, 0)
def m_hs_canBe : q_M := (⟨"HiredShades", "canBe", "(II)I"⟩, prog_1_method_17_code, 3, (Option.some Jvm.ClassFile.FieldType.int), 3, 0, 0)
def m_hs_chain : q_M := (⟨"HiredShades", "chain", "(II)I"⟩, prog_1_method_18_code, 4, (Option.some Jvm.ClassFile.FieldType.int), 5, 0, 0)
def m_hs_shades : q_M := (⟨"HiredShades", "shades", "(I)I"⟩, prog_1_method_19_code, 4, (Option.some Jvm.ClassFile.FieldType.int), 6, 0, 0)
def m_hs_fewestShades : q_M := (⟨"HiredShades", "fewestShades", "(I)I"⟩, prog_1_method_20_code, 3, (Option.some Jvm.ClassFile.FieldType.int), 5, 0, 0)
def m_hs_must : q_M := (⟨"HiredShades", "must", "(I)I"⟩, prog_1_method_21_code, 4, (Option.some Jvm.ClassFile.FieldType.int), 5, 0, 0)
def m_hs_clash : q_M := (⟨"HiredShades", "clash", "(I)I"⟩, prog_1_method_22_code, 8, (Option.some Jvm.ClassFile.FieldType.int), 5, 0, 0)
def m_hs_could : q_M := (⟨"HiredShades", "could", "(IIZ)I"⟩, prog_1_method_23_code, 8, (Option.some Jvm.ClassFile.FieldType.int), 5, 0, 0)
def m_hs_ways : q_M := (⟨"HiredShades", "ways", "(I)I"⟩, prog_1_method_24_code, 2, (Option.some Jvm.ClassFile.FieldType.int), 4, 0, 0)
def m_hs_hire : q_M := (⟨"HiredShades", "hire", "(II)Z"⟩, prog_1_method_25_code, 3, (Option.some Jvm.ClassFile.FieldType.boolean), 3, 0, 0)
def m_hs_undo : q_M := (⟨"HiredShades", "undo", "()Z"⟩, prog_1_method_26_code, 1, (Option.some Jvm.ClassFile.FieldType.boolean), 3, 0, 0)
def m_hs_crew : q_M := (⟨"HiredShades", "crew", "(III)I"⟩, prog_1_method_27_code, 4, (Option.some Jvm.ClassFile.FieldType.int), 5, 0, 0)
def m_hs_take : q_M := (⟨"HiredShades", "take", "(II)I"⟩, prog_1_method_28_code, 4, (Option.some Jvm.ClassFile.FieldType.int), 5, 0, 0)
def m_hs_findCrew : q_M := (⟨"HiredShades", "findCrew", "(II)Z"⟩, prog_1_method_29_code, 3, (Option.some Jvm.ClassFile.FieldType.boolean), 4, 0, 0)
def m_hs_crowd : q_M := (⟨"HiredShades", "crowd", "(IIII)I"⟩, prog_1_method_30_code, 9, (Option.some Jvm.ClassFile.FieldType.int), 6, 0, 0)
def m_hs_cheapestOf : q_M := (⟨"HiredShades", "cheapestOf", "(I)I"⟩, prog_1_method_31_code, 5, (Option.some Jvm.ClassFile.FieldType.int), 1, 0, 0)
def m_hs_shade : q_M := (⟨"HiredShades", "shade", "(II)I"⟩, prog_1_method_32_code, 4, (Option.some Jvm.ClassFile.FieldType.int), 3, 0, 0)
def m_hs_pricesOf : q_M := (⟨"HiredShades", "pricesOf", "(II)I"⟩, prog_1_method_33_code, 5, (Option.some Jvm.ClassFile.FieldType.int), 1, 0, 0)
def m_hs_leastPassOf : q_M := (⟨"HiredShades", "leastPassOf", "(II)I"⟩, prog_1_method_34_code, 6, (Option.some Jvm.ClassFile.FieldType.int), 1, 0, 0)
def m_hs_seed : q_M := (⟨"HiredShades", "seed", "(I)Z"⟩, prog_1_method_35_code, 2, (Option.some Jvm.ClassFile.FieldType.boolean), 1, 0, 0)
def m_hs_days : q_M := (⟨"HiredShades", "days", "(II)I"⟩, prog_1_method_36_code, 8, (Option.some Jvm.ClassFile.FieldType.int), 2, 0, 0)
def m_hs_drawOfThousand : q_M := (⟨"HiredShades", "drawOfThousand", "()I"⟩, prog_1_method_37_code, 1, (Option.some Jvm.ClassFile.FieldType.int), 1, 0, 0)
def m_hs_average : q_M := (⟨"HiredShades", "average", "()I"⟩, prog_1_method_38_code, 5, (Option.some Jvm.ClassFile.FieldType.int), 2, 0, 0)
def m_hs_image : q_M := (⟨"HiredShades", "image", "()I"⟩, prog_1_method_39_code, 3, (Option.some Jvm.ClassFile.FieldType.int), 2, 0, 0)
def m_hs_octet : q_M := (⟨"HiredShades", "octet", "(I)I"⟩, prog_1_method_40_code, 2, (Option.some Jvm.ClassFile.FieldType.int), 1, 0, 0)
def m_hs_on : q_M := (⟨"HiredShades", "on", "()Z"⟩, prog_1_method_41_code, 3, (Option.some Jvm.ClassFile.FieldType.boolean), 3, 0, 0)
def m_hs_isImage : q_M := (⟨"HiredShades", "isImage", "()Z"⟩, prog_1_method_42_code, 4, (Option.some Jvm.ClassFile.FieldType.boolean), 2, 0, 0)
def m_hs_meetsAllTold : q_M := (⟨"HiredShades", "meetsAllTold", "(II)Z"⟩, prog_1_method_43_code, 5, (Option.some Jvm.ClassFile.FieldType.boolean), 1, 0, 0)
def m_hs_checkByte : q_M := (⟨"HiredShades", "checkByte", "([II)I"⟩, prog_1_method_44_code, 4, (Option.some Jvm.ClassFile.FieldType.int), 1, 0, 0)
def m_hs_isSighting : q_M := (⟨"HiredShades", "isSighting", "(I)Z"⟩, prog_1_method_45_code, 2, (Option.some Jvm.ClassFile.FieldType.boolean), 2, 0, 0)
def m_hs_isShade : q_M := (⟨"HiredShades", "isShade", "(I)Z"⟩, prog_1_method_46_code, 2, (Option.some Jvm.ClassFile.FieldType.boolean), 2, 0, 0)
def m_hs_isPlaceAndHour : q_M := (⟨"HiredShades", "isPlaceAndHour", "(II)Z"⟩, prog_1_method_47_code, 3, (Option.some Jvm.ClassFile.FieldType.boolean), 2, 0, 0)
def m_hs_heldBy : q_M := (⟨"HiredShades", "heldBy", "(I)I"⟩, prog_1_method_48_code, 2, (Option.some Jvm.ClassFile.FieldType.int), 2, 0, 0)
def m_hs_unhired : q_M := (⟨"HiredShades", "unhired", "()I"⟩, prog_1_method_49_code, 1, (Option.some Jvm.ClassFile.FieldType.int), 3, 0, 0)
def m_hs_unhiredOf : q_M := (⟨"HiredShades", "unhiredOf", "(I)I"⟩, prog_1_method_50_code, 2, (Option.some Jvm.ClassFile.FieldType.int), 4, 0, 0)
def m_hs_nthOf : q_M := (⟨"HiredShades", "nthOf", "(II)I"⟩, prog_1_method_51_code, 4, (Option.some Jvm.ClassFile.FieldType.int), 1, 0, 0)
def m_mo_init : q_M := (⟨"HiredShadesModel", "<init>", "()V"⟩, prog_11_method_1_code, 1, (Option.none : Option Jvm.ClassFile.FieldType), 1, 54, 10204)
def m_mo_isIn : q_M := (⟨"HiredShadesModel", "isIn", "(JJJ)Z"⟩, prog_11_method_2_code, 6, (Option.some Jvm.ClassFile.FieldType.boolean), 1, 0, 0)
def m_mo_feed : q_M := (⟨"HiredShadesModel", "feed", "(IIIII)I"⟩, prog_11_method_3_code, 8, (Option.some Jvm.ClassFile.FieldType.int), 1, 0, 0)
def m_mo_end : q_M := (⟨"HiredShadesModel", "end", "(I)Z"⟩, prog_11_method_4_code, 2, (Option.some Jvm.ClassFile.FieldType.boolean), 1, 0, 0)
def m_mo_fail : q_M := (⟨"HiredShadesModel", "fail", "(II)V"⟩, prog_11_method_5_code, 3, (Option.none : Option Jvm.ClassFile.FieldType), 1, 0, 0)
def m_mo_isLetter : q_M := (⟨"HiredShadesModel", "isLetter", "(I)Z"⟩, prog_11_method_6_code, 1, (Option.some Jvm.ClassFile.FieldType.boolean), 1, 0, 0)
def m_mo_isDigit : q_M := (⟨"HiredShadesModel", "isDigit", "(I)Z"⟩, prog_11_method_7_code, 1, (Option.some Jvm.ClassFile.FieldType.boolean), 1, 0, 0)
def m_mo_look : q_M := (⟨"HiredShadesModel", "look", "()I"⟩, prog_11_method_8_code, 1, (Option.some Jvm.ClassFile.FieldType.int), 1, 0, 0)
def m_mo_isHere : q_M := (⟨"HiredShadesModel", "isHere", "([C)Z"⟩, prog_11_method_9_code, 4, (Option.some Jvm.ClassFile.FieldType.boolean), 2, 0, 0)
def m_mo_takes : q_M := (⟨"HiredShadesModel", "takes", "([C)Z"⟩, prog_11_method_10_code, 2, (Option.some Jvm.ClassFile.FieldType.boolean), 3, 0, 0)
def m_mo_asks : q_M := (⟨"HiredShadesModel", "asks", "([C)V"⟩, prog_11_method_11_code, 2, (Option.none : Option Jvm.ClassFile.FieldType), 4, 0, 0)
def m_mo_takesSign : q_M := (⟨"HiredShadesModel", "takesSign", "(I)Z"⟩, prog_11_method_12_code, 2, (Option.some Jvm.ClassFile.FieldType.boolean), 2, 0, 0)
def m_mo_asksSign : q_M := (⟨"HiredShadesModel", "asksSign", "(I)V"⟩, prog_11_method_13_code, 2, (Option.none : Option Jvm.ClassFile.FieldType), 3, 0, 0)
def m_mo_number : q_M := (⟨"HiredShadesModel", "number", "(II)I"⟩, prog_11_method_14_code, 5, (Option.some Jvm.ClassFile.FieldType.int), 2, 0, 0)
def m_mo_isOwnHere : q_M := (⟨"HiredShadesModel", "isOwnHere", "()Z"⟩, prog_11_method_15_code, 2, (Option.some Jvm.ClassFile.FieldType.boolean), 3, 0, 0)
def m_mo_name : q_M := (⟨"HiredShadesModel", "name", "()J"⟩, prog_11_method_16_code, 3, (Option.some Jvm.ClassFile.FieldType.long), 4, 0, 0)
def m_mo_isFull : q_M := (⟨"HiredShadesModel", "isFull", "(III)Z"⟩, prog_11_method_17_code, 4, (Option.some Jvm.ClassFile.FieldType.boolean), 2, 0, 0)
def m_mo_nameOf : q_M := (⟨"HiredShadesModel", "nameOf", "(IJ)I"⟩, prog_11_method_18_code, 5, (Option.some Jvm.ClassFile.FieldType.int), 1, 0, 0)
def m_mo_newName : q_M := (⟨"HiredShadesModel", "newName", "(I)I"⟩, prog_11_method_19_code, 5, (Option.some Jvm.ClassFile.FieldType.int), 5, 0, 0)
def m_mo_oneOf : q_M := (⟨"HiredShadesModel", "oneOf", "(I)I"⟩, prog_11_method_20_code, 5, (Option.some Jvm.ClassFile.FieldType.int), 5, 0, 0)
def m_mo_traitsTold : q_M := (⟨"HiredShadesModel", "traitsTold", "()V"⟩, prog_11_method_21_code, 5, (Option.none : Option Jvm.ClassFile.FieldType), 6, 0, 0)
def m_mo_personTold : q_M := (⟨"HiredShadesModel", "personTold", "(I)V"⟩, prog_11_method_22_code, 4, (Option.none : Option Jvm.ClassFile.FieldType), 6, 0, 0)
def m_mo_shadeTold : q_M := (⟨"HiredShadesModel", "shadeTold", "(I)V"⟩, prog_11_method_23_code, 5, (Option.none : Option Jvm.ClassFile.FieldType), 6, 0, 0)
def m_mo_placeTold : q_M := (⟨"HiredShadesModel", "placeTold", "(I)V"⟩, prog_11_method_24_code, 3, (Option.none : Option Jvm.ClassFile.FieldType), 6, 0, 0)
def m_mo_roadTold : q_M := (⟨"HiredShadesModel", "roadTold", "(I)V"⟩, prog_11_method_25_code, 5, (Option.none : Option Jvm.ClassFile.FieldType), 6, 0, 0)
def m_mo_seenTold : q_M := (⟨"HiredShadesModel", "seenTold", "(I)V"⟩, prog_11_method_26_code, 4, (Option.none : Option Jvm.ClassFile.FieldType), 6, 0, 0)
def m_mo_priceTold : q_M := (⟨"HiredShadesModel", "priceTold", "(I)V"⟩, prog_11_method_27_code, 3, (Option.none : Option Jvm.ClassFile.FieldType), 9, 0, 0)
def m_mo_statementTold : q_M := (⟨"HiredShadesModel", "statementTold", "()V"⟩, prog_11_method_28_code, 2, (Option.none : Option Jvm.ClassFile.FieldType), 10, 0, 0)
def m_mo_guild : q_M := (⟨"HiredShadesModel", "guild", "()I"⟩, prog_11_method_29_code, 2, (Option.some Jvm.ClassFile.FieldType.int), 11, 0, 0)
def m_mo_stands : q_M := (⟨"HiredShadesModel", "stands", "()V"⟩, prog_11_method_30_code, 5, (Option.none : Option Jvm.ClassFile.FieldType), 6, 0, 0)
def m_mo_code : q_M := (⟨"HiredShadesModel", "code", "(I)V"⟩, prog_11_method_31_code, 2, (Option.none : Option Jvm.ClassFile.FieldType), 1, 0, 0)
def m_mo_opens : q_M := (⟨"HiredShadesModel", "opens", "(II)V"⟩, prog_11_method_32_code, 3, (Option.none : Option Jvm.ClassFile.FieldType), 2, 0, 0)
def m_mo_isOn : q_M := (⟨"HiredShadesModel", "isOn", "(I)Z"⟩, prog_11_method_33_code, 2, (Option.some Jvm.ClassFile.FieldType.boolean), 1, 0, 0)
def m_mo_drops : q_M := (⟨"HiredShadesModel", "drops", "()V"⟩, prog_11_method_34_code, 1, (Option.none : Option Jvm.ClassFile.FieldType), 2, 0, 0)
def m_mo_isMark : q_M := (⟨"HiredShadesModel", "isMark", "(I)Z"⟩, prog_11_method_35_code, 2, (Option.some Jvm.ClassFile.FieldType.boolean), 1, 0, 0)
def m_mo_mark : q_M := (⟨"HiredShadesModel", "mark", "()I"⟩, prog_11_method_36_code, 2, (Option.some Jvm.ClassFile.FieldType.int), 2, 0, 0)
def m_mo_dropsToMark : q_M := (⟨"HiredShadesModel", "dropsToMark", "()V"⟩, prog_11_method_37_code, 1, (Option.none : Option Jvm.ClassFile.FieldType), 3, 0, 0)
def m_mo_onePart : q_M := (⟨"HiredShadesModel", "onePart", "()V"⟩, prog_11_method_38_code, 5, (Option.none : Option Jvm.ClassFile.FieldType), 5, 0, 0)
def m_mo_goesOn : q_M := (⟨"HiredShadesModel", "goesOn", "()Z"⟩, prog_11_method_39_code, 2, (Option.some Jvm.ClassFile.FieldType.boolean), 4, 0, 0)
def m_mo_sumsTold : q_M := (⟨"HiredShadesModel", "sumsTold", "()V"⟩, prog_11_method_40_code, 3, (Option.none : Option Jvm.ClassFile.FieldType), 6, 0, 0)
def m_mo_fact : q_M := (⟨"HiredShadesModel", "fact", "()V"⟩, prog_11_method_41_code, 2, (Option.none : Option Jvm.ClassFile.FieldType), 7, 0, 0)
def m_mo_hasSquare : q_M := (⟨"HiredShadesModel", "hasSquare", "()Z"⟩, prog_11_method_42_code, 2, (Option.some Jvm.ClassFile.FieldType.boolean), 1, 0, 0)
def m_mo_dropsNots : q_M := (⟨"HiredShadesModel", "dropsNots", "()V"⟩, prog_11_method_43_code, 1, (Option.none : Option Jvm.ClassFile.FieldType), 3, 0, 0)
def m_mo_test : q_M := (⟨"HiredShadesModel", "test", "()V"⟩, prog_11_method_44_code, 3, (Option.none : Option Jvm.ClassFile.FieldType), 8, 0, 0)
def m_mo_goesOnTest : q_M := (⟨"HiredShadesModel", "goesOnTest", "()Z"⟩, prog_11_method_45_code, 1, (Option.some Jvm.ClassFile.FieldType.boolean), 4, 0, 0)
def m_mo_fault : q_M := (⟨"HiredShadesModel", "fault", "(I)I"⟩, prog_11_method_46_code, 2, (Option.some Jvm.ClassFile.FieldType.int), 1, 0, 0)
def m_mo_clip : q_M := (⟨"HiredShadesModel", "clip", "(J)J"⟩, prog_11_method_47_code, 2, (Option.some Jvm.ClassFile.FieldType.long), 1, 0, 0)
def m_mo_floor : q_M := (⟨"HiredShadesModel", "floor", "(JJ)J"⟩, prog_11_method_48_code, 6, (Option.some Jvm.ClassFile.FieldType.long), 1, 0, 0)
def m_mo_puts : q_M := (⟨"HiredShadesModel", "puts", "(J)V"⟩, prog_11_method_49_code, 3, (Option.none : Option Jvm.ClassFile.FieldType), 1, 0, 0)
def m_mo_joins : q_M := (⟨"HiredShadesModel", "joins", "(I)V"⟩, prog_11_method_50_code, 6, (Option.none : Option Jvm.ClassFile.FieldType), 2, 0, 0)
def m_mo_asked : q_M := (⟨"HiredShadesModel", "asked", "(I)I"⟩, prog_11_method_51_code, 2, (Option.some Jvm.ClassFile.FieldType.int), 1, 0, 0)
def m_mo_told : q_M := (⟨"HiredShadesModel", "told", "(II)J"⟩, prog_11_method_52_code, 5, (Option.some Jvm.ClassFile.FieldType.long), 3, 0, 0)
def m_mo_seenMany : q_M := (⟨"HiredShadesModel", "seenMany", "()I"⟩, prog_11_method_53_code, 1, (Option.some Jvm.ClassFile.FieldType.int), 1, 0, 0)
def m_mo_persons : q_M := (⟨"HiredShadesModel", "persons", "()I"⟩, prog_11_method_54_code, 1, (Option.some Jvm.ClassFile.FieldType.int), 1, 0, 0)
def m_mo_shadeMany : q_M := (⟨"HiredShadesModel", "shadeMany", "()I"⟩, prog_11_method_55_code, 1, (Option.some Jvm.ClassFile.FieldType.int), 1, 0, 0)
def m_mo_personOf : q_M := (⟨"HiredShadesModel", "personOf", "(I)I"⟩, prog_11_method_56_code, 2, (Option.some Jvm.ClassFile.FieldType.int), 1, 0, 0)
def m_mo_placeOf : q_M := (⟨"HiredShadesModel", "placeOf", "(I)I"⟩, prog_11_method_57_code, 2, (Option.some Jvm.ClassFile.FieldType.int), 1, 0, 0)
def m_mo_hourOf : q_M := (⟨"HiredShadesModel", "hourOf", "(I)I"⟩, prog_11_method_58_code, 2, (Option.some Jvm.ClassFile.FieldType.int), 1, 0, 0)
def m_mo_areFarEnough : q_M := (⟨"HiredShadesModel", "areFarEnough", "(IIII)Z"⟩, prog_11_method_59_code, 6, (Option.some Jvm.ClassFile.FieldType.boolean), 1, 0, 0)
def m_mo_isSeen : q_M := (⟨"HiredShadesModel", "isSeen", "(I)Z"⟩, prog_11_method_60_code, 2, (Option.some Jvm.ClassFile.FieldType.boolean), 2, 0, 0)
def m_mo_isShade : q_M := (⟨"HiredShadesModel", "isShade", "(I)Z"⟩, prog_11_method_61_code, 2, (Option.some Jvm.ClassFile.FieldType.boolean), 2, 0, 0)
def m_mo_isPerson : q_M := (⟨"HiredShadesModel", "isPerson", "(I)Z"⟩, prog_11_method_62_code, 2, (Option.some Jvm.ClassFile.FieldType.boolean), 2, 0, 0)
def m_mo_passes : q_M := (⟨"HiredShadesModel", "passes", "()V"⟩, prog_11_method_63_code, 6, (Option.none : Option Jvm.ClassFile.FieldType), 5, 0, 0)
def m_mo_priceNow : q_M := (⟨"HiredShadesModel", "priceNow", "(I)I"⟩, prog_11_method_64_code, 5, (Option.some Jvm.ClassFile.FieldType.int), 4, 0, 0)
def m_mo_keepsHires : q_M := (⟨"HiredShadesModel", "keepsHires", "()V"⟩, prog_11_method_65_code, 2, (Option.none : Option Jvm.ClassFile.FieldType), 1, 0, 0)
def m_mo_hiredBy : q_M := (⟨"HiredShadesModel", "hiredBy", "(I)I"⟩, prog_11_method_66_code, 4, (Option.some Jvm.ClassFile.FieldType.int), 2, 0, 0)
def m_mo_ownOf : q_M := (⟨"HiredShadesModel", "ownOf", "(I)I"⟩, prog_11_method_67_code, 4, (Option.some Jvm.ClassFile.FieldType.int), 2, 0, 0)
def m_mo_canBeAll : q_M := (⟨"HiredShadesModel", "canBeAll", "(I)Z"⟩, prog_11_method_68_code, 3, (Option.some Jvm.ClassFile.FieldType.boolean), 2, 0, 0)
def m_mo_bits : q_M := (⟨"HiredShadesModel", "bits", "(I)I"⟩, prog_11_method_69_code, 3, (Option.some Jvm.ClassFile.FieldType.int), 1, 0, 0)
def m_mo_has : q_M := (⟨"HiredShadesModel", "has", "(I)I"⟩, prog_11_method_70_code, 2, (Option.some Jvm.ClassFile.FieldType.int), 3, 0, 0)
def m_mo_letter : q_M := (⟨"HiredShadesModel", "letter", "(III)I"⟩, prog_11_method_71_code, 9, (Option.some Jvm.ClassFile.FieldType.int), 2, 0, 0)
def m_mo_trait : q_M := (⟨"HiredShadesModel", "trait", "(III)I"⟩, prog_11_method_72_code, 4, (Option.some Jvm.ClassFile.FieldType.int), 3, 0, 0)
def m_mo_seen : q_M := (⟨"HiredShadesModel", "seen", "(II)I"⟩, prog_11_method_73_code, 3, (Option.some Jvm.ClassFile.FieldType.int), 3, 0, 0)
def m_mo_isPlaceHere : q_M := (⟨"HiredShadesModel", "isPlaceHere", "(I)Z"⟩, prog_11_method_74_code, 2, (Option.some Jvm.ClassFile.FieldType.boolean), 2, 0, 0)
def m_mo_far : q_M := (⟨"HiredShadesModel", "far", "(II)I"⟩, prog_11_method_75_code, 4, (Option.some Jvm.ClassFile.FieldType.int), 3, 0, 0)
def m_mo_pass : q_M := (⟨"HiredShadesModel", "pass", "(II)I"⟩, prog_11_method_76_code, 3, (Option.some Jvm.ClassFile.FieldType.int), 3, 0, 0)
def m_mo_price : q_M := (⟨"HiredShadesModel", "price", "(II)I"⟩, prog_11_method_77_code, 3, (Option.some Jvm.ClassFile.FieldType.int), 3, 0, 0)
def m_mo_best : q_M := (⟨"HiredShadesModel", "best", "(IZI)I"⟩, prog_11_method_78_code, 8, (Option.some Jvm.ClassFile.FieldType.int), 3, 0, 0)
def m_mo_weightOf : q_M := (⟨"HiredShadesModel", "weightOf", "(II)I"⟩, prog_11_method_79_code, 4, (Option.some Jvm.ClassFile.FieldType.int), 3, 0, 0)
def m_mo_whose : q_M := (⟨"HiredShadesModel", "whose", "(II)I"⟩, prog_11_method_80_code, 5, (Option.some Jvm.ClassFile.FieldType.int), 4, 0, 0)
def m_mo_orders : q_M := (⟨"HiredShadesModel", "orders", "()V"⟩, prog_11_method_81_code, 4, (Option.none : Option Jvm.ClassFile.FieldType), 2, 0, 0)
def m_mo_longestOf : q_M := (⟨"HiredShadesModel", "longestOf", "(I)I"⟩, prog_11_method_82_code, 6, (Option.some Jvm.ClassFile.FieldType.int), 2, 0, 0)
def m_mo_chainOf : q_M := (⟨"HiredShadesModel", "chainOf", "(I)I"⟩, prog_11_method_83_code, 6, (Option.some Jvm.ClassFile.FieldType.int), 3, 0, 0)
def m_mo_bitAt : q_M := (⟨"HiredShadesModel", "bitAt", "(II)I"⟩, prog_11_method_84_code, 4, (Option.some Jvm.ClassFile.FieldType.int), 1, 0, 0)
def m_mo_chain : q_M := (⟨"HiredShadesModel", "chain", "(II)I"⟩, prog_11_method_85_code, 4, (Option.some Jvm.ClassFile.FieldType.int), 4, 0, 0)
def m_mo_fewestOf : q_M := (⟨"HiredShadesModel", "fewestOf", "(I)I"⟩, prog_11_method_86_code, 2, (Option.some Jvm.ClassFile.FieldType.int), 3, 0, 0)
def m_mo_shades : q_M := (⟨"HiredShadesModel", "shades", "(I)I"⟩, prog_11_method_87_code, 4, (Option.some Jvm.ClassFile.FieldType.int), 4, 0, 0)
def m_mo_must : q_M := (⟨"HiredShadesModel", "must", "(I)I"⟩, prog_11_method_88_code, 4, (Option.some Jvm.ClassFile.FieldType.int), 3, 0, 0)
def m_mo_canBe : q_M := (⟨"HiredShadesModel", "canBe", "(II)I"⟩, prog_11_method_89_code, 3, (Option.some Jvm.ClassFile.FieldType.int), 3, 0, 0)
def m_mo_clash : q_M := (⟨"HiredShadesModel", "clash", "(I)I"⟩, prog_11_method_90_code, 5, (Option.some Jvm.ClassFile.FieldType.int), 2, 0, 0)
def m_mo_couldBe : q_M := (⟨"HiredShadesModel", "couldBe", "(III)Z"⟩, prog_11_method_91_code, 5, (Option.some Jvm.ClassFile.FieldType.boolean), 2, 0, 0)
def m_mo_could : q_M := (⟨"HiredShadesModel", "could", "(IIZ)I"⟩, prog_11_method_92_code, 7, (Option.some Jvm.ClassFile.FieldType.int), 3, 0, 0)
def m_mo_opens1 : q_M := (⟨"HiredShadesModel", "opens", "(I)V"⟩, prog_11_method_93_code, 3, (Option.none : Option Jvm.ClassFile.FieldType), 3, 0, 0)
def m_mo_hasOf : q_M := (⟨"HiredShadesModel", "hasOf", "(I)I"⟩, prog_11_method_94_code, 2, (Option.some Jvm.ClassFile.FieldType.int), 2, 0, 0)
def m_mo_canHave : q_M := (⟨"HiredShadesModel", "canHave", "(II)Z"⟩, prog_11_method_95_code, 4, (Option.some Jvm.ClassFile.FieldType.boolean), 3, 0, 0)
def m_mo_isNext : q_M := (⟨"HiredShadesModel", "isNext", "(III)Z"⟩, prog_11_method_96_code, 4, (Option.some Jvm.ClassFile.FieldType.boolean), 4, 0, 0)
def m_mo_ways : q_M := (⟨"HiredShadesModel", "ways", "(I)I"⟩, prog_11_method_97_code, 5, (Option.some Jvm.ClassFile.FieldType.int), 5, 0, 0)
def m_mo_hire : q_M := (⟨"HiredShadesModel", "hire", "(II)Z"⟩, prog_11_method_98_code, 3, (Option.some Jvm.ClassFile.FieldType.boolean), 3, 0, 0)
def m_mo_undo : q_M := (⟨"HiredShadesModel", "undo", "()Z"⟩, prog_11_method_99_code, 2, (Option.some Jvm.ClassFile.FieldType.boolean), 1, 0, 0)
def m_mo_crewOf : q_M := (⟨"HiredShadesModel", "crewOf", "(I)I"⟩, prog_11_method_100_code, 6, (Option.some Jvm.ClassFile.FieldType.int), 5, 0, 0)
def m_mo_crewFor : q_M := (⟨"HiredShadesModel", "crewFor", "(II)I"⟩, prog_11_method_101_code, 3, (Option.some Jvm.ClassFile.FieldType.int), 6, 0, 0)
def m_mo_crew : q_M := (⟨"HiredShadesModel", "crew", "(III)I"⟩, prog_11_method_102_code, 5, (Option.some Jvm.ClassFile.FieldType.int), 7, 0, 0)
def m_mo_take : q_M := (⟨"HiredShadesModel", "take", "(II)I"⟩, prog_11_method_103_code, 5, (Option.some Jvm.ClassFile.FieldType.int), 7, 0, 0)
def m_mo_crowd : q_M := (⟨"HiredShadesModel", "crowd", "(IIII)I"⟩, prog_11_method_104_code, 11, (Option.some Jvm.ClassFile.FieldType.int), 3, 0, 0)
def m_mo_shade : q_M := (⟨"HiredShadesModel", "shade", "(II)I"⟩, prog_11_method_105_code, 9, (Option.some Jvm.ClassFile.FieldType.int), 3, 0, 0)
def m_mo_seed : q_M := (⟨"HiredShadesModel", "seed", "(I)Z"⟩, prog_11_method_106_code, 2, (Option.some Jvm.ClassFile.FieldType.boolean), 1, 0, 0)
def m_mo_drawOf : q_M := (⟨"HiredShadesModel", "drawOf", "(I)I"⟩, prog_11_method_107_code, 2, (Option.some Jvm.ClassFile.FieldType.int), 1, 0, 0)
def m_mo_priceAt : q_M := (⟨"HiredShadesModel", "priceAt", "(I)I"⟩, prog_11_method_108_code, 2, (Option.some Jvm.ClassFile.FieldType.int), 1, 0, 0)
def m_mo_days : q_M := (⟨"HiredShadesModel", "days", "(II)I"⟩, prog_11_method_109_code, 7, (Option.some Jvm.ClassFile.FieldType.int), 2, 0, 0)
def m_mo_average : q_M := (⟨"HiredShadesModel", "average", "()I"⟩, prog_11_method_110_code, 4, (Option.some Jvm.ClassFile.FieldType.int), 2, 0, 0)
def m_mo_checked : q_M := (⟨"HiredShadesModel", "checked", "([II)I"⟩, prog_11_method_111_code, 4, (Option.some Jvm.ClassFile.FieldType.int), 1, 0, 0)
def m_mo_image : q_M := (⟨"HiredShadesModel", "image", "()I"⟩, prog_11_method_112_code, 2, (Option.some Jvm.ClassFile.FieldType.int), 2, 0, 0)
def m_mo_octet : q_M := (⟨"HiredShadesModel", "octet", "(I)I"⟩, prog_11_method_113_code, 2, (Option.some Jvm.ClassFile.FieldType.int), 1, 0, 0)
def m_mo_on : q_M := (⟨"HiredShadesModel", "on", "()Z"⟩, prog_11_method_114_code, 5, (Option.some Jvm.ClassFile.FieldType.boolean), 3, 0, 0)
def m_ji_bitCount : q_M := (⟨"java/lang/Integer", "bitCount", "(I)I"⟩, prog_12_method_49_code, 1, (Option.some Jvm.ClassFile.FieldType.int), 1, 0, 0)
def m_jm_floorDiv : q_M := (⟨"java/lang/Math", "floorDiv", "(II)I"⟩, prog_13_method_47_code, 3, (Option.some Jvm.ClassFile.FieldType.int), 1, 0, 0)
def m_jm_abs : q_M := (⟨"java/lang/Math", "abs", "(I)I"⟩, prog_13_method_59_code, 1, (Option.some Jvm.ClassFile.FieldType.int), 1, 0, 0)
def m_jm_max : q_M := (⟨"java/lang/Math", "max", "(II)I"⟩, prog_13_method_65_code, 2, (Option.some Jvm.ClassFile.FieldType.int), 1, 0, 0)
def m_jm_maxL : q_M := (⟨"java/lang/Math", "max", "(JJ)J"⟩, prog_13_method_66_code, 4, (Option.some Jvm.ClassFile.FieldType.long), 1, 0, 0)
def m_jm_min : q_M := (⟨"java/lang/Math", "min", "(II)I"⟩, prog_13_method_69_code, 2, (Option.some Jvm.ClassFile.FieldType.int), 1, 0, 0)
def m_jm_minL : q_M := (⟨"java/lang/Math", "min", "(JJ)J"⟩, prog_13_method_70_code, 4, (Option.some Jvm.ClassFile.FieldType.long), 1, 0, 0)
def m_js_length : q_M := (⟨"java/lang/String", "length", "()I"⟩, prog_14_method_54_code, 1, (Option.some Jvm.ClassFile.FieldType.int), 2, 0, 0)
def m_js_charAt : q_M := (⟨"java/lang/String", "charAt", "(I)C"⟩, prog_14_method_56_code, 2, (Option.some Jvm.ClassFile.FieldType.char), 5, 0, 0)
def m_js_coder : q_M := (⟨"java/lang/String", "coder", "()B"⟩, prog_14_method_152_code, 1, (Option.some Jvm.ClassFile.FieldType.byte), 1, 0, 0)
def m_js_isLatin1 : q_M := (⟨"java/lang/String", "isLatin1", "()Z"⟩, prog_14_method_154_code, 1, (Option.some Jvm.ClassFile.FieldType.boolean), 1, 0, 0)
def m_js_checkIndex : q_M := (⟨"java/lang/String", "checkIndex", "(II)V"⟩, prog_14_method_155_code, 2, (Option.none : Option Jvm.ClassFile.FieldType), 2, 0, 0)
def m_jl_charAt : q_M := (⟨"java/lang/StringLatin1", "charAt", "([BI)C"⟩, prog_15_method_2_code, 2, (Option.some Jvm.ClassFile.FieldType.char), 3, 0, 0)
def m_ju_getChar : q_M := (⟨"java/lang/StringUTF16", "getChar", "([BI)C"⟩, prog_16_method_5_code, 2, (Option.some Jvm.ClassFile.FieldType.char), 2, 0, 0)
def m_ju_length : q_M := (⟨"java/lang/StringUTF16", "length", "([B)I"⟩, prog_16_method_6_code, 1, (Option.some Jvm.ClassFile.FieldType.int), 1, 0, 0)
def m_ju_charAt : q_M := (⟨"java/lang/StringUTF16", "charAt", "([BI)C"⟩, prog_16_method_83_code, 2, (Option.some Jvm.ClassFile.FieldType.char), 4, 0, 0)
def m_ju_checkIndex : q_M := (⟨"java/lang/StringUTF16", "checkIndex", "(I[B)V"⟩, prog_16_method_91_code, 2, (Option.none : Option Jvm.ClassFile.FieldType), 3, 0, 0)
def m_jp_checkIndex : q_M := (⟨"jdk/internal/util/Preconditions", "checkIndex", "(IILjava/util/function/BiFunction;)I"⟩, prog_18_method_11_code, 3, (Option.some Jvm.ClassFile.FieldType.int), 1, 0, 0)
def m_lw_law : q_M := (⟨"HiredShadesLaw", "law", "([I)Z"⟩, code, 4, (some .boolean), 1000, 600000, 7302250)
set_option maxRecDepth 20000 in
theorem mi_ch_init : q_mi m_ch_init 0 := ⟨q_in 147 rfl rfl, q_in 6 (by decide +kernel) rfl, by decide +kernel, by decide +kernel, by decide +kernel, by decide⟩
theorem mv_ch_init : Cond.instanceMethod (q_y m_ch_init) ∈ q_T := q_in 146 (by decide +kernel) rfl
set_option maxRecDepth 20000 in
theorem mi_ch_longest : q_mi m_ch_longest 2 := ⟨q_in 746 rfl rfl, q_in 6 (by decide +kernel) rfl, by decide +kernel, by decide +kernel, by decide +kernel, by decide⟩
set_option maxRecDepth 20000 in
theorem mv_ch_longest : q_mi m_ch_longest 2 ∧ q_mv m_ch_longest ∧ q_m0 m_ch_longest ∧ (q_cl[0]?).map (·.1) = some (q_y m_ch_longest).cls := ⟨mi_ch_longest, ⟨q_in 744 (by decide +kernel) rfl, q_in 745 (by decide +kernel) rfl⟩, ⟨rfl, rfl⟩, rfl⟩
set_option maxRecDepth 20000 in
theorem mi_ch_longestAhead : q_mi m_ch_longestAhead 3 := ⟨q_in 750 rfl rfl, q_in 6 (by decide +kernel) rfl, by decide +kernel, by decide +kernel, by decide +kernel, by decide⟩
set_option maxRecDepth 20000 in
theorem mv_ch_longestAhead : q_mi m_ch_longestAhead 3 ∧ q_mv m_ch_longestAhead ∧ q_m0 m_ch_longestAhead ∧ (q_cl[0]?).map (·.1) = some (q_y m_ch_longestAhead).cls := ⟨mi_ch_longestAhead, ⟨q_in 749 (by decide +kernel) rfl, q_is (List.mem_map.mpr ⟨_, List.mem_of_getElem? (l := lw_privs) (i := 37) rfl, rfl⟩) rfl⟩, ⟨rfl, rfl⟩, rfl⟩
set_option maxRecDepth 20000 in
theorem mi_ch_firstLongest : q_mi m_ch_firstLongest 2 := ⟨q_in 755 rfl rfl, q_in 6 (by decide +kernel) rfl, by decide +kernel, by decide +kernel, by decide +kernel, by decide⟩
set_option maxRecDepth 20000 in
theorem mv_ch_firstLongest : q_mi m_ch_firstLongest 2 ∧ q_mv m_ch_firstLongest ∧ q_m0 m_ch_firstLongest ∧ (q_cl[0]?).map (·.1) = some (q_y m_ch_firstLongest).cls := ⟨mi_ch_firstLongest, ⟨q_in 753 (by decide +kernel) rfl, q_in 754 (by decide +kernel) rfl⟩, ⟨rfl, rfl⟩, rfl⟩
set_option maxRecDepth 20000 in
theorem mi_cr_init : q_mi m_cr_init 0 := ⟨q_in 157 rfl rfl, q_in 7 (by decide +kernel) rfl, by decide +kernel, by decide +kernel, by decide +kernel, by decide⟩
theorem mv_cr_init : Cond.instanceMethod (q_y m_cr_init) ∈ q_T := q_in 156 (by decide +kernel) rfl
set_option maxRecDepth 20000 in
theorem mi_cr_choose : q_mi m_cr_choose 2 := ⟨q_in 792 rfl rfl, q_in 7 (by decide +kernel) rfl, by decide +kernel, by decide +kernel, by decide +kernel, by decide⟩
set_option maxRecDepth 20000 in
theorem mv_cr_choose : q_mi m_cr_choose 2 ∧ q_mv m_cr_choose ∧ q_m0 m_cr_choose ∧ (q_cl[1]?).map (·.1) = some (q_y m_cr_choose).cls := ⟨mi_cr_choose, ⟨q_in 790 (by decide +kernel) rfl, q_in 791 (by decide +kernel) rfl⟩, ⟨rfl, rfl⟩, rfl⟩
set_option maxRecDepth 20000 in
theorem mi_cr_countWays : q_mi m_cr_countWays 3 := ⟨q_in 797 rfl rfl, q_in 7 (by decide +kernel) rfl, by decide +kernel, by decide +kernel, by decide +kernel, by decide⟩
set_option maxRecDepth 20000 in
theorem mv_cr_countWays : q_mi m_cr_countWays 3 ∧ q_mv m_cr_countWays ∧ q_m0 m_cr_countWays ∧ (q_cl[1]?).map (·.1) = some (q_y m_cr_countWays).cls := ⟨mi_cr_countWays, ⟨q_in 795 (by decide +kernel) rfl, q_in 796 (by decide +kernel) rfl⟩, ⟨rfl, rfl⟩, rfl⟩
set_option maxRecDepth 20000 in
theorem mi_cr_sets : q_mi m_cr_sets 0 := ⟨q_in 816 rfl rfl, q_in 7 (by decide +kernel) rfl, by decide +kernel, by decide +kernel, by decide +kernel, by decide⟩
set_option maxRecDepth 20000 in
theorem mv_cr_sets : q_mi m_cr_sets 0 ∧ q_mv m_cr_sets ∧ q_m0 m_cr_sets ∧ (q_cl[1]?).map (·.1) = some (q_y m_cr_sets).cls := ⟨mi_cr_sets, ⟨q_in 815 (by decide +kernel) rfl, q_is (List.mem_map.mpr ⟨_, List.mem_of_getElem? (l := lw_privs) (i := 43) rfl, rfl⟩) rfl⟩, ⟨rfl, rfl⟩, rfl⟩
set_option maxRecDepth 20000 in
theorem mi_cr_fillWithPersons : q_mi m_cr_fillWithPersons 1 := ⟨q_in 801 rfl rfl, q_in 7 (by decide +kernel) rfl, by decide +kernel, by decide +kernel, by decide +kernel, by decide⟩
set_option maxRecDepth 20000 in
theorem mv_cr_fillWithPersons : q_mi m_cr_fillWithPersons 1 ∧ q_mv m_cr_fillWithPersons ∧ q_m0 m_cr_fillWithPersons ∧ (q_cl[1]?).map (·.1) = some (q_y m_cr_fillWithPersons).cls := ⟨mi_cr_fillWithPersons, ⟨q_in 800 (by decide +kernel) rfl, q_is (List.mem_map.mpr ⟨_, List.mem_of_getElem? (l := lw_privs) (i := 40) rfl, rfl⟩) rfl⟩, ⟨rfl, rfl⟩, rfl⟩
set_option maxRecDepth 20000 in
theorem mi_cr_chosenAmong : q_mi m_cr_chosenAmong 1 := ⟨q_in 806 rfl rfl, q_in 7 (by decide +kernel) rfl, by decide +kernel, by decide +kernel, by decide +kernel, by decide⟩
set_option maxRecDepth 20000 in
theorem mv_cr_chosenAmong : q_mi m_cr_chosenAmong 1 ∧ q_mv m_cr_chosenAmong ∧ q_m0 m_cr_chosenAmong ∧ (q_cl[1]?).map (·.1) = some (q_y m_cr_chosenAmong).cls := ⟨mi_cr_chosenAmong, ⟨q_in 805 (by decide +kernel) rfl, q_is (List.mem_map.mpr ⟨_, List.mem_of_getElem? (l := lw_privs) (i := 41) rfl, rfl⟩) rfl⟩, ⟨rfl, rfl⟩, rfl⟩
set_option maxRecDepth 20000 in
theorem mi_cr_waysWithPart : q_mi m_cr_waysWithPart 1 := ⟨q_in 820 rfl rfl, q_in 7 (by decide +kernel) rfl, by decide +kernel, by decide +kernel, by decide +kernel, by decide⟩
set_option maxRecDepth 20000 in
theorem mv_cr_waysWithPart : q_mi m_cr_waysWithPart 1 ∧ q_mv m_cr_waysWithPart ∧ q_m0 m_cr_waysWithPart ∧ (q_cl[1]?).map (·.1) = some (q_y m_cr_waysWithPart).cls := ⟨mi_cr_waysWithPart, ⟨q_in 819 (by decide +kernel) rfl, q_is (List.mem_map.mpr ⟨_, List.mem_of_getElem? (l := lw_privs) (i := 44) rfl, rfl⟩) rfl⟩, ⟨rfl, rfl⟩, rfl⟩
set_option maxRecDepth 20000 in
theorem mi_cr_findCheapest : q_mi m_cr_findCheapest 3 := ⟨q_in 851 rfl rfl, q_in 7 (by decide +kernel) rfl, by decide +kernel, by decide +kernel, by decide +kernel, by decide⟩
set_option maxRecDepth 20000 in
theorem mv_cr_findCheapest : q_mi m_cr_findCheapest 3 ∧ q_mv m_cr_findCheapest ∧ q_m0 m_cr_findCheapest ∧ (q_cl[1]?).map (·.1) = some (q_y m_cr_findCheapest).cls := ⟨mi_cr_findCheapest, ⟨q_in 849 (by decide +kernel) rfl, q_in 850 (by decide +kernel) rfl⟩, ⟨rfl, rfl⟩, rfl⟩
set_option maxRecDepth 20000 in
theorem mi_cr_cheapestWithPart : q_mi m_cr_cheapestWithPart 1 := ⟨q_in 855 rfl rfl, q_in 7 (by decide +kernel) rfl, by decide +kernel, by decide +kernel, by decide +kernel, by decide⟩
set_option maxRecDepth 20000 in
theorem mv_cr_cheapestWithPart : q_mi m_cr_cheapestWithPart 1 ∧ q_mv m_cr_cheapestWithPart ∧ q_m0 m_cr_cheapestWithPart ∧ (q_cl[1]?).map (·.1) = some (q_y m_cr_cheapestWithPart).cls := ⟨mi_cr_cheapestWithPart, ⟨q_in 854 (by decide +kernel) rfl, q_is (List.mem_map.mpr ⟨_, List.mem_of_getElem? (l := lw_privs) (i := 46) rfl, rfl⟩) rfl⟩, ⟨rfl, rfl⟩, rfl⟩
set_option maxRecDepth 20000 in
theorem mi_cr_fillPart : q_mi m_cr_fillPart 5 := ⟨q_in 810 rfl rfl, q_in 7 (by decide +kernel) rfl, by decide +kernel, by decide +kernel, by decide +kernel, by decide⟩
set_option maxRecDepth 20000 in
theorem mv_cr_fillPart : q_mi m_cr_fillPart 5 ∧ q_mv m_cr_fillPart ∧ q_m0 m_cr_fillPart ∧ (q_cl[1]?).map (·.1) = some (q_y m_cr_fillPart).cls := ⟨mi_cr_fillPart, ⟨q_in 809 (by decide +kernel) rfl, q_is (List.mem_map.mpr ⟨_, List.mem_of_getElem? (l := lw_privs) (i := 42) rfl, rfl⟩) rfl⟩, ⟨rfl, rfl⟩, rfl⟩
set_option maxRecDepth 20000 in
theorem mi_gd_init : q_mi m_gd_init 0 := ⟨q_in 186 rfl rfl, q_in 8 (by decide +kernel) rfl, by decide +kernel, by decide +kernel, by decide +kernel, by decide⟩
theorem mv_gd_init : Cond.instanceMethod (q_y m_gd_init) ∈ q_T := q_in 185 (by decide +kernel) rfl
set_option maxRecDepth 20000 in
theorem mi_gd_clear : q_mi m_gd_clear 0 := ⟨q_in 325 rfl rfl, q_in 8 (by decide +kernel) rfl, by decide +kernel, by decide +kernel, by decide +kernel, by decide⟩
set_option maxRecDepth 20000 in
theorem mv_gd_clear : q_mi m_gd_clear 0 ∧ q_mv m_gd_clear ∧ q_m0 m_gd_clear ∧ (q_cl[2]?).map (·.1) = some (q_y m_gd_clear).cls := ⟨mi_gd_clear, ⟨q_in 323 (by decide +kernel) rfl, q_in 324 (by decide +kernel) rfl⟩, ⟨rfl, rfl⟩, rfl⟩
set_option maxRecDepth 20000 in
theorem mi_gd_hasRoom : q_mi m_gd_hasRoom 1 := ⟨q_in 441 rfl rfl, q_in 8 (by decide +kernel) rfl, by decide +kernel, by decide +kernel, by decide +kernel, by decide⟩
set_option maxRecDepth 20000 in
theorem mv_gd_hasRoom : q_mi m_gd_hasRoom 1 ∧ q_mv m_gd_hasRoom ∧ q_m0 m_gd_hasRoom ∧ (q_cl[2]?).map (·.1) = some (q_y m_gd_hasRoom).cls := ⟨mi_gd_hasRoom, ⟨q_in 439 (by decide +kernel) rfl, q_in 440 (by decide +kernel) rfl⟩, ⟨rfl, rfl⟩, rfl⟩
set_option maxRecDepth 20000 in
theorem mi_gd_isThere : q_mi m_gd_isThere 2 := ⟨q_in 679 rfl rfl, q_in 8 (by decide +kernel) rfl, by decide +kernel, by decide +kernel, by decide +kernel, by decide⟩
set_option maxRecDepth 20000 in
theorem mv_gd_isThere : q_mi m_gd_isThere 2 ∧ q_mv m_gd_isThere ∧ q_m0 m_gd_isThere ∧ (q_cl[2]?).map (·.1) = some (q_y m_gd_isThere).cls := ⟨mi_gd_isThere, ⟨q_in 677 (by decide +kernel) rfl, q_in 678 (by decide +kernel) rfl⟩, ⟨rfl, rfl⟩, rfl⟩
set_option maxRecDepth 20000 in
theorem mi_gd_named : q_mi m_gd_named 2 := ⟨q_in 432 rfl rfl, q_in 8 (by decide +kernel) rfl, by decide +kernel, by decide +kernel, by decide +kernel, by decide⟩
set_option maxRecDepth 20000 in
theorem mv_gd_named : q_mi m_gd_named 2 ∧ q_mv m_gd_named ∧ q_m0 m_gd_named ∧ (q_cl[2]?).map (·.1) = some (q_y m_gd_named).cls := ⟨mi_gd_named, ⟨q_in 430 (by decide +kernel) rfl, q_in 431 (by decide +kernel) rfl⟩, ⟨rfl, rfl⟩, rfl⟩
set_option maxRecDepth 20000 in
theorem mi_gd_isGiven : q_mi m_gd_isGiven 1 := ⟨q_in 428 rfl rfl, q_in 8 (by decide +kernel) rfl, by decide +kernel, by decide +kernel, by decide +kernel, by decide⟩
set_option maxRecDepth 20000 in
theorem mv_gd_isGiven : q_mi m_gd_isGiven 1 ∧ q_mv m_gd_isGiven ∧ q_m0 m_gd_isGiven ∧ (q_cl[2]?).map (·.1) = some (q_y m_gd_isGiven).cls := ⟨mi_gd_isGiven, ⟨q_in 426 (by decide +kernel) rfl, q_in 427 (by decide +kernel) rfl⟩, ⟨rfl, rfl⟩, rfl⟩
set_option maxRecDepth 20000 in
theorem mi_gd_addNamed : q_mi m_gd_addNamed 2 := ⟨q_in 437 rfl rfl, q_in 8 (by decide +kernel) rfl, by decide +kernel, by decide +kernel, by decide +kernel, by decide⟩
set_option maxRecDepth 20000 in
theorem mv_gd_addNamed : q_mi m_gd_addNamed 2 ∧ q_mv m_gd_addNamed ∧ q_m0 m_gd_addNamed ∧ (q_cl[2]?).map (·.1) = some (q_y m_gd_addNamed).cls := ⟨mi_gd_addNamed, ⟨q_in 435 (by decide +kernel) rfl, q_in 436 (by decide +kernel) rfl⟩, ⟨rfl, rfl⟩, rfl⟩
set_option maxRecDepth 20000 in
theorem mi_gd_addRoad : q_mi m_gd_addRoad 3 := ⟨q_in 493 rfl rfl, q_in 8 (by decide +kernel) rfl, by decide +kernel, by decide +kernel, by decide +kernel, by decide⟩
set_option maxRecDepth 20000 in
theorem mv_gd_addRoad : q_mi m_gd_addRoad 3 ∧ q_mv m_gd_addRoad ∧ q_m0 m_gd_addRoad ∧ (q_cl[2]?).map (·.1) = some (q_y m_gd_addRoad).cls := ⟨mi_gd_addRoad, ⟨q_in 491 (by decide +kernel) rfl, q_in 492 (by decide +kernel) rfl⟩, ⟨rfl, rfl⟩, rfl⟩
set_option maxRecDepth 20000 in
theorem mi_gd_settle : q_mi m_gd_settle 0 := ⟨q_in 570 rfl rfl, q_in 8 (by decide +kernel) rfl, by decide +kernel, by decide +kernel, by decide +kernel, by decide⟩
set_option maxRecDepth 20000 in
theorem mv_gd_settle : q_mi m_gd_settle 0 ∧ q_mv m_gd_settle ∧ q_m0 m_gd_settle ∧ (q_cl[2]?).map (·.1) = some (q_y m_gd_settle).cls := ⟨mi_gd_settle, ⟨q_in 568 (by decide +kernel) rfl, q_in 569 (by decide +kernel) rfl⟩, ⟨rfl, rfl⟩, rfl⟩
set_option maxRecDepth 20000 in
theorem mi_gd_joinRoads : q_mi m_gd_joinRoads 0 := ⟨q_in 574 rfl rfl, q_in 8 (by decide +kernel) rfl, by decide +kernel, by decide +kernel, by decide +kernel, by decide⟩
set_option maxRecDepth 20000 in
theorem mv_gd_joinRoads : q_mi m_gd_joinRoads 0 ∧ q_mv m_gd_joinRoads ∧ q_m0 m_gd_joinRoads ∧ (q_cl[2]?).map (·.1) = some (q_y m_gd_joinRoads).cls := ⟨mi_gd_joinRoads, ⟨q_in 573 (by decide +kernel) rfl, q_is (List.mem_map.mpr ⟨_, List.mem_of_getElem? (l := lw_privs) (i := 21) rfl, rfl⟩) rfl⟩, ⟨rfl, rfl⟩, rfl⟩
set_option maxRecDepth 20000 in
theorem mi_gd_sortByHour : q_mi m_gd_sortByHour 0 := ⟨q_in 578 rfl rfl, q_in 8 (by decide +kernel) rfl, by decide +kernel, by decide +kernel, by decide +kernel, by decide⟩
set_option maxRecDepth 20000 in
theorem mv_gd_sortByHour : q_mi m_gd_sortByHour 0 ∧ q_mv m_gd_sortByHour ∧ q_m0 m_gd_sortByHour ∧ (q_cl[2]?).map (·.1) = some (q_y m_gd_sortByHour).cls := ⟨mi_gd_sortByHour, ⟨q_in 577 (by decide +kernel) rfl, q_is (List.mem_map.mpr ⟨_, List.mem_of_getElem? (l := lw_privs) (i := 22) rfl, rfl⟩) rfl⟩, ⟨rfl, rfl⟩, rfl⟩
set_option maxRecDepth 20000 in
theorem mi_gd_near : q_mi m_gd_near 2 := ⟨q_in 582 rfl rfl, q_in 8 (by decide +kernel) rfl, by decide +kernel, by decide +kernel, by decide +kernel, by decide⟩
set_option maxRecDepth 20000 in
theorem mv_gd_near : q_mi m_gd_near 2 ∧ q_mv m_gd_near ∧ q_m0 m_gd_near ∧ (q_cl[2]?).map (·.1) = some (q_y m_gd_near).cls := ⟨mi_gd_near, ⟨q_in 580 (by decide +kernel) rfl, q_in 581 (by decide +kernel) rfl⟩, ⟨rfl, rfl⟩, rfl⟩
set_option maxRecDepth 20000 in
theorem mi_gd_passOf : q_mi m_gd_passOf 2 := ⟨q_in 589 rfl rfl, q_in 8 (by decide +kernel) rfl, by decide +kernel, by decide +kernel, by decide +kernel, by decide⟩
set_option maxRecDepth 20000 in
theorem mv_gd_passOf : q_mi m_gd_passOf 2 ∧ q_mv m_gd_passOf ∧ q_m0 m_gd_passOf ∧ (q_cl[2]?).map (·.1) = some (q_y m_gd_passOf).cls := ⟨mi_gd_passOf, ⟨q_in 588 (by decide +kernel) rfl, q_is (List.mem_map.mpr ⟨_, List.mem_of_getElem? (l := lw_privs) (i := 23) rfl, rfl⟩) rfl⟩, ⟨rfl, rfl⟩, rfl⟩
set_option maxRecDepth 20000 in
theorem mi_gd_unlikeTraits : q_mi m_gd_unlikeTraits 2 := ⟨q_in 601 rfl rfl, q_in 8 (by decide +kernel) rfl, by decide +kernel, by decide +kernel, by decide +kernel, by decide⟩
set_option maxRecDepth 20000 in
theorem mv_gd_unlikeTraits : q_mi m_gd_unlikeTraits 2 ∧ q_mv m_gd_unlikeTraits ∧ q_m0 m_gd_unlikeTraits ∧ (q_cl[2]?).map (·.1) = some (q_y m_gd_unlikeTraits).cls := ⟨mi_gd_unlikeTraits, ⟨q_in 599 (by decide +kernel) rfl, q_in 600 (by decide +kernel) rfl⟩, ⟨rfl, rfl⟩, rfl⟩
set_option maxRecDepth 20000 in
theorem mi_gd_titheOf : q_mi m_gd_titheOf 2 := ⟨q_in 909 rfl rfl, q_in 8 (by decide +kernel) rfl, by decide +kernel, by decide +kernel, by decide +kernel, by decide⟩
set_option maxRecDepth 20000 in
theorem mv_gd_titheOf : q_mi m_gd_titheOf 2 ∧ q_mv m_gd_titheOf ∧ q_m0 m_gd_titheOf ∧ (q_cl[2]?).map (·.1) = some (q_y m_gd_titheOf).cls := ⟨mi_gd_titheOf, ⟨q_in 907 (by decide +kernel) rfl, q_in 908 (by decide +kernel) rfl⟩, ⟨rfl, rfl⟩, rfl⟩
set_option maxRecDepth 20000 in
theorem mi_gd_allSightings : q_mi m_gd_allSightings 0 := ⟨q_in 653 rfl rfl, q_in 8 (by decide +kernel) rfl, by decide +kernel, by decide +kernel, by decide +kernel, by decide⟩
set_option maxRecDepth 20000 in
theorem mv_gd_allSightings : q_mi m_gd_allSightings 0 ∧ q_mv m_gd_allSightings ∧ q_m0 m_gd_allSightings ∧ (q_cl[2]?).map (·.1) = some (q_y m_gd_allSightings).cls := ⟨mi_gd_allSightings, ⟨q_in 651 (by decide +kernel) rfl, q_in 652 (by decide +kernel) rfl⟩, ⟨rfl, rfl⟩, rfl⟩
set_option maxRecDepth 20000 in
theorem mi_gd_sightingsOf : q_mi m_gd_sightingsOf 1 := ⟨q_in 734 rfl rfl, q_in 8 (by decide +kernel) rfl, by decide +kernel, by decide +kernel, by decide +kernel, by decide⟩
set_option maxRecDepth 20000 in
theorem mv_gd_sightingsOf : q_mi m_gd_sightingsOf 1 ∧ q_mv m_gd_sightingsOf ∧ q_m0 m_gd_sightingsOf ∧ (q_cl[2]?).map (·.1) = some (q_y m_gd_sightingsOf).cls := ⟨mi_gd_sightingsOf, ⟨q_in 732 (by decide +kernel) rfl, q_in 733 (by decide +kernel) rfl⟩, ⟨rfl, rfl⟩, rfl⟩
set_option maxRecDepth 20000 in
theorem mi_gd_firstByHour : q_mi m_gd_firstByHour 1 := ⟨q_in 880 rfl rfl, q_in 8 (by decide +kernel) rfl, by decide +kernel, by decide +kernel, by decide +kernel, by decide⟩
set_option maxRecDepth 20000 in
theorem mv_gd_firstByHour : q_mi m_gd_firstByHour 1 ∧ q_mv m_gd_firstByHour ∧ q_m0 m_gd_firstByHour ∧ (q_cl[2]?).map (·.1) = some (q_y m_gd_firstByHour).cls := ⟨mi_gd_firstByHour, ⟨q_in 878 (by decide +kernel) rfl, q_in 879 (by decide +kernel) rfl⟩, ⟨rfl, rfl⟩, rfl⟩
set_option maxRecDepth 20000 in
theorem mi_gd_hoursAlong : q_mi m_gd_hoursAlong 1 := ⟨q_in 884 rfl rfl, q_in 8 (by decide +kernel) rfl, by decide +kernel, by decide +kernel, by decide +kernel, by decide⟩
set_option maxRecDepth 20000 in
theorem mv_gd_hoursAlong : q_mi m_gd_hoursAlong 1 ∧ q_mv m_gd_hoursAlong ∧ q_m0 m_gd_hoursAlong ∧ (q_cl[2]?).map (·.1) = some (q_y m_gd_hoursAlong).cls := ⟨mi_gd_hoursAlong, ⟨q_in 882 (by decide +kernel) rfl, q_in 883 (by decide +kernel) rfl⟩, ⟨rfl, rfl⟩, rfl⟩
set_option maxRecDepth 20000 in
theorem mi_gr_init : q_mi m_gr_init 1 := ⟨q_in 73 rfl rfl, q_in 3 (by decide +kernel) rfl, by decide +kernel, by decide +kernel, by decide +kernel, by decide⟩
theorem mv_gr_init : Cond.instanceMethod (q_y m_gr_init) ∈ q_T := q_in 72 (by decide +kernel) rfl
set_option maxRecDepth 20000 in
theorem mi_gr_read : q_mi m_gr_read 1 := ⟨q_in 321 rfl rfl, q_in 3 (by decide +kernel) rfl, by decide +kernel, by decide +kernel, by decide +kernel, by decide⟩
set_option maxRecDepth 20000 in
theorem mv_gr_read : q_mi m_gr_read 1 ∧ q_mv m_gr_read ∧ q_m0 m_gr_read ∧ (q_cl[3]?).map (·.1) = some (q_y m_gr_read).cls := ⟨mi_gr_read, ⟨q_in 319 (by decide +kernel) rfl, q_in 320 (by decide +kernel) rfl⟩, ⟨rfl, rfl⟩, rfl⟩
set_option maxRecDepth 20000 in
theorem mi_gr_settle : q_mi m_gr_settle 0 := ⟨q_in 566 rfl rfl, q_in 3 (by decide +kernel) rfl, by decide +kernel, by decide +kernel, by decide +kernel, by decide⟩
set_option maxRecDepth 20000 in
theorem mv_gr_settle : q_mi m_gr_settle 0 ∧ q_mv m_gr_settle ∧ q_m0 m_gr_settle ∧ (q_cl[3]?).map (·.1) = some (q_y m_gr_settle).cls := ⟨mi_gr_settle, ⟨q_in 564 (by decide +kernel) rfl, q_in 565 (by decide +kernel) rfl⟩, ⟨rfl, rfl⟩, rfl⟩
set_option maxRecDepth 20000 in
theorem mi_gr_readStatement : q_mi m_gr_readStatement 1 := ⟨q_in 341 rfl rfl, q_in 3 (by decide +kernel) rfl, by decide +kernel, by decide +kernel, by decide +kernel, by decide⟩
set_option maxRecDepth 20000 in
theorem mv_gr_readStatement : q_mi m_gr_readStatement 1 ∧ q_mv m_gr_readStatement ∧ q_m0 m_gr_readStatement ∧ (q_cl[3]?).map (·.1) = some (q_y m_gr_readStatement).cls := ⟨mi_gr_readStatement, ⟨q_in 340 (by decide +kernel) rfl, q_is (List.mem_map.mpr ⟨_, List.mem_of_getElem? (l := lw_privs) (i := 0) rfl, rfl⟩) rfl⟩, ⟨rfl, rfl⟩, rfl⟩
set_option maxRecDepth 20000 in
theorem mi_gr_begin : q_mi m_gr_begin 1 := ⟨q_in 462 rfl rfl, q_in 3 (by decide +kernel) rfl, by decide +kernel, by decide +kernel, by decide +kernel, by decide⟩
set_option maxRecDepth 20000 in
theorem mv_gr_begin : q_mi m_gr_begin 1 ∧ q_mv m_gr_begin ∧ q_m0 m_gr_begin ∧ (q_cl[3]?).map (·.1) = some (q_y m_gr_begin).cls := ⟨mi_gr_begin, ⟨q_in 461 (by decide +kernel) rfl, q_is (List.mem_map.mpr ⟨_, List.mem_of_getElem? (l := lw_privs) (i := 4) rfl, rfl⟩) rfl⟩, ⟨rfl, rfl⟩, rfl⟩
set_option maxRecDepth 20000 in
theorem mi_gr_readTraits : q_mi m_gr_readTraits 0 := ⟨q_in 414 rfl rfl, q_in 3 (by decide +kernel) rfl, by decide +kernel, by decide +kernel, by decide +kernel, by decide⟩
set_option maxRecDepth 20000 in
theorem mv_gr_readTraits : q_mi m_gr_readTraits 0 ∧ q_mv m_gr_readTraits ∧ q_m0 m_gr_readTraits ∧ (q_cl[3]?).map (·.1) = some (q_y m_gr_readTraits).cls := ⟨mi_gr_readTraits, ⟨q_in 413 (by decide +kernel) rfl, q_is (List.mem_map.mpr ⟨_, List.mem_of_getElem? (l := lw_privs) (i := 1) rfl, rfl⟩) rfl⟩, ⟨rfl, rfl⟩, rfl⟩
set_option maxRecDepth 20000 in
theorem mi_gr_readPerson : q_mi m_gr_readPerson 0 := ⟨q_in 467 rfl rfl, q_in 3 (by decide +kernel) rfl, by decide +kernel, by decide +kernel, by decide +kernel, by decide⟩
set_option maxRecDepth 20000 in
theorem mv_gr_readPerson : q_mi m_gr_readPerson 0 ∧ q_mv m_gr_readPerson ∧ q_m0 m_gr_readPerson ∧ (q_cl[3]?).map (·.1) = some (q_y m_gr_readPerson).cls := ⟨mi_gr_readPerson, ⟨q_in 466 (by decide +kernel) rfl, q_is (List.mem_map.mpr ⟨_, List.mem_of_getElem? (l := lw_privs) (i := 5) rfl, rfl⟩) rfl⟩, ⟨rfl, rfl⟩, rfl⟩
set_option maxRecDepth 20000 in
theorem mi_gr_readShade : q_mi m_gr_readShade 0 := ⟨q_in 475 rfl rfl, q_in 3 (by decide +kernel) rfl, by decide +kernel, by decide +kernel, by decide +kernel, by decide⟩
set_option maxRecDepth 20000 in
theorem mv_gr_readShade : q_mi m_gr_readShade 0 ∧ q_mv m_gr_readShade ∧ q_m0 m_gr_readShade ∧ (q_cl[3]?).map (·.1) = some (q_y m_gr_readShade).cls := ⟨mi_gr_readShade, ⟨q_in 474 (by decide +kernel) rfl, q_is (List.mem_map.mpr ⟨_, List.mem_of_getElem? (l := lw_privs) (i := 7) rfl, rfl⟩) rfl⟩, ⟨rfl, rfl⟩, rfl⟩
set_option maxRecDepth 20000 in
theorem mi_gr_readRoad : q_mi m_gr_readRoad 0 := ⟨q_in 484 rfl rfl, q_in 3 (by decide +kernel) rfl, by decide +kernel, by decide +kernel, by decide +kernel, by decide⟩
set_option maxRecDepth 20000 in
theorem mv_gr_readRoad : q_mi m_gr_readRoad 0 ∧ q_mv m_gr_readRoad ∧ q_m0 m_gr_readRoad ∧ (q_cl[3]?).map (·.1) = some (q_y m_gr_readRoad).cls := ⟨mi_gr_readRoad, ⟨q_in 483 (by decide +kernel) rfl, q_is (List.mem_map.mpr ⟨_, List.mem_of_getElem? (l := lw_privs) (i := 8) rfl, rfl⟩) rfl⟩, ⟨rfl, rfl⟩, rfl⟩
set_option maxRecDepth 20000 in
theorem mi_gr_readSeen : q_mi m_gr_readSeen 0 := ⟨q_in 500 rfl rfl, q_in 3 (by decide +kernel) rfl, by decide +kernel, by decide +kernel, by decide +kernel, by decide⟩
set_option maxRecDepth 20000 in
theorem mv_gr_readSeen : q_mi m_gr_readSeen 0 ∧ q_mv m_gr_readSeen ∧ q_m0 m_gr_readSeen ∧ (q_cl[3]?).map (·.1) = some (q_y m_gr_readSeen).cls := ⟨mi_gr_readSeen, ⟨q_in 499 (by decide +kernel) rfl, q_is (List.mem_map.mpr ⟨_, List.mem_of_getElem? (l := lw_privs) (i := 10) rfl, rfl⟩) rfl⟩, ⟨rfl, rfl⟩, rfl⟩
set_option maxRecDepth 20000 in
theorem mi_gr_readTithe : q_mi m_gr_readTithe 0 := ⟨q_in 561 rfl rfl, q_in 3 (by decide +kernel) rfl, by decide +kernel, by decide +kernel, by decide +kernel, by decide⟩
set_option maxRecDepth 20000 in
theorem mv_gr_readTithe : q_mi m_gr_readTithe 0 ∧ q_mv m_gr_readTithe ∧ q_m0 m_gr_readTithe ∧ (q_cl[3]?).map (·.1) = some (q_y m_gr_readTithe).cls := ⟨mi_gr_readTithe, ⟨q_in 560 (by decide +kernel) rfl, q_is (List.mem_map.mpr ⟨_, List.mem_of_getElem? (l := lw_privs) (i := 20) rfl, rfl⟩) rfl⟩, ⟨rfl, rfl⟩, rfl⟩
set_option maxRecDepth 20000 in
theorem mi_gr_readNumber : q_mi m_gr_readNumber 4 := ⟨q_in 447 rfl rfl, q_in 3 (by decide +kernel) rfl, by decide +kernel, by decide +kernel, by decide +kernel, by decide⟩
set_option maxRecDepth 20000 in
theorem mv_gr_readNumber : q_mi m_gr_readNumber 4 ∧ q_mv m_gr_readNumber ∧ q_m0 m_gr_readNumber ∧ (q_cl[3]?).map (·.1) = some (q_y m_gr_readNumber).cls := ⟨mi_gr_readNumber, ⟨q_in 446 (by decide +kernel) rfl, q_is (List.mem_map.mpr ⟨_, List.mem_of_getElem? (l := lw_privs) (i := 3) rfl, rfl⟩) rfl⟩, ⟨rfl, rfl⟩, rfl⟩
set_option maxRecDepth 20000 in
theorem mi_gr_readForTraits : q_mi m_gr_readForTraits 2 := ⟨q_in 471 rfl rfl, q_in 3 (by decide +kernel) rfl, by decide +kernel, by decide +kernel, by decide +kernel, by decide⟩
set_option maxRecDepth 20000 in
theorem mv_gr_readForTraits : q_mi m_gr_readForTraits 2 ∧ q_mv m_gr_readForTraits ∧ q_m0 m_gr_readForTraits ∧ (q_cl[3]?).map (·.1) = some (q_y m_gr_readForTraits).cls := ⟨mi_gr_readForTraits, ⟨q_in 470 (by decide +kernel) rfl, q_is (List.mem_map.mpr ⟨_, List.mem_of_getElem? (l := lw_privs) (i := 6) rfl, rfl⟩) rfl⟩, ⟨rfl, rfl⟩, rfl⟩
set_option maxRecDepth 20000 in
theorem mi_gr_readNewName : q_mi m_gr_readNewName 1 := ⟨q_in 418 rfl rfl, q_in 3 (by decide +kernel) rfl, by decide +kernel, by decide +kernel, by decide +kernel, by decide⟩
set_option maxRecDepth 20000 in
theorem mv_gr_readNewName : q_mi m_gr_readNewName 1 ∧ q_mv m_gr_readNewName ∧ q_m0 m_gr_readNewName ∧ (q_cl[3]?).map (·.1) = some (q_y m_gr_readNewName).cls := ⟨mi_gr_readNewName, ⟨q_in 417 (by decide +kernel) rfl, q_is (List.mem_map.mpr ⟨_, List.mem_of_getElem? (l := lw_privs) (i := 2) rfl, rfl⟩) rfl⟩, ⟨rfl, rfl⟩, rfl⟩
set_option maxRecDepth 20000 in
theorem mi_gr_readKnownName : q_mi m_gr_readKnownName 1 := ⟨q_in 488 rfl rfl, q_in 3 (by decide +kernel) rfl, by decide +kernel, by decide +kernel, by decide +kernel, by decide⟩
set_option maxRecDepth 20000 in
theorem mv_gr_readKnownName : q_mi m_gr_readKnownName 1 ∧ q_mv m_gr_readKnownName ∧ q_m0 m_gr_readKnownName ∧ (q_cl[3]?).map (·.1) = some (q_y m_gr_readKnownName).cls := ⟨mi_gr_readKnownName, ⟨q_in 487 (by decide +kernel) rfl, q_is (List.mem_map.mpr ⟨_, List.mem_of_getElem? (l := lw_privs) (i := 9) rfl, rfl⟩) rfl⟩, ⟨rfl, rfl⟩, rfl⟩
set_option maxRecDepth 20000 in
theorem mi_hi_init : q_mi m_hi_init 0 := ⟨q_in 120 rfl rfl, q_in 5 (by decide +kernel) rfl, by decide +kernel, by decide +kernel, by decide +kernel, by decide⟩
theorem mv_hi_init : Cond.instanceMethod (q_y m_hi_init) ∈ q_T := q_in 119 (by decide +kernel) rfl
set_option maxRecDepth 20000 in
theorem mi_hi_clear : q_mi m_hi_clear 0 := ⟨q_in 127 rfl rfl, q_in 5 (by decide +kernel) rfl, by decide +kernel, by decide +kernel, by decide +kernel, by decide⟩
set_option maxRecDepth 20000 in
theorem mv_hi_clear : q_mi m_hi_clear 0 ∧ q_mv m_hi_clear ∧ q_m0 m_hi_clear ∧ (q_cl[4]?).map (·.1) = some (q_y m_hi_clear).cls := ⟨mi_hi_clear, ⟨q_in 125 (by decide +kernel) rfl, q_in 126 (by decide +kernel) rfl⟩, ⟨rfl, rfl⟩, rfl⟩
set_option maxRecDepth 20000 in
theorem mi_hi_held : q_mi m_hi_held 2 := ⟨q_in 665 rfl rfl, q_in 5 (by decide +kernel) rfl, by decide +kernel, by decide +kernel, by decide +kernel, by decide⟩
set_option maxRecDepth 20000 in
theorem mv_hi_held : q_mi m_hi_held 2 ∧ q_mv m_hi_held ∧ q_m0 m_hi_held ∧ (q_cl[4]?).map (·.1) = some (q_y m_hi_held).cls := ⟨mi_hi_held, ⟨q_in 663 (by decide +kernel) rfl, q_in 664 (by decide +kernel) rfl⟩, ⟨rfl, rfl⟩, rfl⟩
set_option maxRecDepth 20000 in
theorem mi_hi_remember : q_mi m_hi_remember 0 := ⟨q_in 828 rfl rfl, q_in 5 (by decide +kernel) rfl, by decide +kernel, by decide +kernel, by decide +kernel, by decide⟩
set_option maxRecDepth 20000 in
theorem mv_hi_remember : q_mi m_hi_remember 0 ∧ q_mv m_hi_remember ∧ q_m0 m_hi_remember ∧ (q_cl[4]?).map (·.1) = some (q_y m_hi_remember).cls := ⟨mi_hi_remember, ⟨q_in 826 (by decide +kernel) rfl, q_in 827 (by decide +kernel) rfl⟩, ⟨rfl, rfl⟩, rfl⟩
set_option maxRecDepth 20000 in
theorem mi_hi_takeBack : q_mi m_hi_takeBack 0 := ⟨q_in 839 rfl rfl, q_in 5 (by decide +kernel) rfl, by decide +kernel, by decide +kernel, by decide +kernel, by decide⟩
set_option maxRecDepth 20000 in
theorem mv_hi_takeBack : q_mi m_hi_takeBack 0 ∧ q_mv m_hi_takeBack ∧ q_m0 m_hi_takeBack ∧ (q_cl[4]?).map (·.1) = some (q_y m_hi_takeBack).cls := ⟨mi_hi_takeBack, ⟨q_in 837 (by decide +kernel) rfl, q_in 838 (by decide +kernel) rfl⟩, ⟨rfl, rfl⟩, rfl⟩
set_option maxRecDepth 20000 in
theorem mi_ru_init : q_mi m_ru_init 1 := ⟨q_in 79 rfl rfl, q_in 4 (by decide +kernel) rfl, by decide +kernel, by decide +kernel, by decide +kernel, by decide⟩
theorem mv_ru_init : Cond.instanceMethod (q_y m_ru_init) ∈ q_T := q_in 78 (by decide +kernel) rfl
set_option maxRecDepth 20000 in
theorem mi_ru_clear : q_mi m_ru_clear 0 := ⟨q_in 329 rfl rfl, q_in 4 (by decide +kernel) rfl, by decide +kernel, by decide +kernel, by decide +kernel, by decide⟩
set_option maxRecDepth 20000 in
theorem mv_ru_clear : q_mi m_ru_clear 0 ∧ q_mv m_ru_clear ∧ q_m0 m_ru_clear ∧ (q_cl[5]?).map (·.1) = some (q_y m_ru_clear).cls := ⟨mi_ru_clear, ⟨q_in 327 (by decide +kernel) rfl, q_in 328 (by decide +kernel) rfl⟩, ⟨rfl, rfl⟩, rfl⟩
set_option maxRecDepth 20000 in
theorem mi_ru_readRule : q_mi m_ru_readRule 1 := ⟨q_in 508 rfl rfl, q_in 4 (by decide +kernel) rfl, by decide +kernel, by decide +kernel, by decide +kernel, by decide⟩
set_option maxRecDepth 20000 in
theorem mv_ru_readRule : q_mi m_ru_readRule 1 ∧ q_mv m_ru_readRule ∧ q_m0 m_ru_readRule ∧ (q_cl[5]?).map (·.1) = some (q_y m_ru_readRule).cls := ⟨mi_ru_readRule, ⟨q_in 506 (by decide +kernel) rfl, q_in 507 (by decide +kernel) rfl⟩, ⟨rfl, rfl⟩, rfl⟩
set_option maxRecDepth 20000 in
theorem mi_ru_emit : q_mi m_ru_emit 1 := ⟨q_in 527 rfl rfl, q_in 4 (by decide +kernel) rfl, by decide +kernel, by decide +kernel, by decide +kernel, by decide⟩
set_option maxRecDepth 20000 in
theorem mv_ru_emit : q_mi m_ru_emit 1 ∧ q_mv m_ru_emit ∧ q_m0 m_ru_emit ∧ (q_cl[5]?).map (·.1) = some (q_y m_ru_emit).cls := ⟨mi_ru_emit, ⟨q_in 526 (by decide +kernel) rfl, q_is (List.mem_map.mpr ⟨_, List.mem_of_getElem? (l := lw_privs) (i := 14) rfl, rfl⟩) rfl⟩, ⟨rfl, rfl⟩, rfl⟩
set_option maxRecDepth 20000 in
theorem mi0_ru_readTest : q_mi (m_ru_readTest 0) 1 := ⟨q_in 548 rfl rfl, q_in 4 (by decide +kernel) rfl, by decide +kernel, by decide +kernel, by decide +kernel, by decide⟩
set_option maxRecDepth 20000 in
theorem mv0_ru_readTest : q_mv (m_ru_readTest 0) := ⟨q_in 547 (by decide +kernel) rfl, q_is (List.mem_map.mpr ⟨_, List.mem_of_getElem? (l := lw_privs) (i := 17) rfl, rfl⟩) rfl⟩
theorem mv_ru_readTest (d : Nat) : q_mi (m_ru_readTest d) 1 ∧ q_mv (m_ru_readTest d) ∧ q_m0 (m_ru_readTest d) ∧ (q_cl[5]?).map (·.1) = some (q_y (m_ru_readTest d)).cls := ⟨mi0_ru_readTest, mv0_ru_readTest, ⟨rfl, rfl⟩, rfl⟩
set_option maxRecDepth 20000 in
theorem mi0_ru_readBoth : q_mi (m_ru_readBoth 0) 1 := ⟨q_in 552 rfl rfl, q_in 4 (by decide +kernel) rfl, by decide +kernel, by decide +kernel, by decide +kernel, by decide⟩
set_option maxRecDepth 20000 in
theorem mv0_ru_readBoth : q_mv (m_ru_readBoth 0) := ⟨q_in 551 (by decide +kernel) rfl, q_is (List.mem_map.mpr ⟨_, List.mem_of_getElem? (l := lw_privs) (i := 18) rfl, rfl⟩) rfl⟩
theorem mv_ru_readBoth (d : Nat) : q_mi (m_ru_readBoth d) 1 ∧ q_mv (m_ru_readBoth d) ∧ q_m0 (m_ru_readBoth d) ∧ (q_cl[5]?).map (·.1) = some (q_y (m_ru_readBoth d)).cls := ⟨mi0_ru_readBoth, mv0_ru_readBoth, ⟨rfl, rfl⟩, rfl⟩
set_option maxRecDepth 20000 in
theorem mi0_ru_readFact : q_mi (m_ru_readFact 0) 1 := ⟨q_in 556 rfl rfl, q_in 4 (by decide +kernel) rfl, by decide +kernel, by decide +kernel, by decide +kernel, by decide⟩
set_option maxRecDepth 20000 in
theorem mv0_ru_readFact : q_mv (m_ru_readFact 0) := ⟨q_in 555 (by decide +kernel) rfl, q_is (List.mem_map.mpr ⟨_, List.mem_of_getElem? (l := lw_privs) (i := 19) rfl, rfl⟩) rfl⟩
theorem mv_ru_readFact (d : Nat) : q_mi (m_ru_readFact d) 1 ∧ q_mv (m_ru_readFact d) ∧ q_m0 (m_ru_readFact d) ∧ (q_cl[5]?).map (·.1) = some (q_y (m_ru_readFact d)).cls := ⟨mi0_ru_readFact, mv0_ru_readFact, ⟨rfl, rfl⟩, rfl⟩
set_option maxRecDepth 20000 in
theorem mi0_ru_readSum : q_mi (m_ru_readSum 0) 1 := ⟨q_in 512 rfl rfl, q_in 4 (by decide +kernel) rfl, by decide +kernel, by decide +kernel, by decide +kernel, by decide⟩
set_option maxRecDepth 20000 in
theorem mv0_ru_readSum : q_mv (m_ru_readSum 0) := ⟨q_in 511 (by decide +kernel) rfl, q_is (List.mem_map.mpr ⟨_, List.mem_of_getElem? (l := lw_privs) (i := 11) rfl, rfl⟩) rfl⟩
theorem mv_ru_readSum (d : Nat) : q_mi (m_ru_readSum d) 1 ∧ q_mv (m_ru_readSum d) ∧ q_m0 (m_ru_readSum d) ∧ (q_cl[5]?).map (·.1) = some (q_y (m_ru_readSum d)).cls := ⟨mi0_ru_readSum, mv0_ru_readSum, ⟨rfl, rfl⟩, rfl⟩
set_option maxRecDepth 20000 in
theorem mi0_ru_readProduct : q_mi (m_ru_readProduct 0) 1 := ⟨q_in 516 rfl rfl, q_in 4 (by decide +kernel) rfl, by decide +kernel, by decide +kernel, by decide +kernel, by decide⟩
set_option maxRecDepth 20000 in
theorem mv0_ru_readProduct : q_mv (m_ru_readProduct 0) := ⟨q_in 515 (by decide +kernel) rfl, q_is (List.mem_map.mpr ⟨_, List.mem_of_getElem? (l := lw_privs) (i := 12) rfl, rfl⟩) rfl⟩
theorem mv_ru_readProduct (d : Nat) : q_mi (m_ru_readProduct d) 1 ∧ q_mv (m_ru_readProduct d) ∧ q_m0 (m_ru_readProduct d) ∧ (q_cl[5]?).map (·.1) = some (q_y (m_ru_readProduct d)).cls := ⟨mi0_ru_readProduct, mv0_ru_readProduct, ⟨rfl, rfl⟩, rfl⟩
set_option maxRecDepth 20000 in
theorem mi0_ru_readPart : q_mi (m_ru_readPart 0) 1 := ⟨q_in 520 rfl rfl, q_in 4 (by decide +kernel) rfl, by decide +kernel, by decide +kernel, by decide +kernel, by decide⟩
set_option maxRecDepth 20000 in
theorem mv0_ru_readPart : q_mv (m_ru_readPart 0) := ⟨q_in 519 (by decide +kernel) rfl, q_is (List.mem_map.mpr ⟨_, List.mem_of_getElem? (l := lw_privs) (i := 13) rfl, rfl⟩) rfl⟩
theorem mv_ru_readPart (d : Nat) : q_mi (m_ru_readPart d) 1 ∧ q_mv (m_ru_readPart d) ∧ q_m0 (m_ru_readPart d) ∧ (q_cl[5]?).map (·.1) = some (q_y (m_ru_readPart d)).cls := ⟨mi0_ru_readPart, mv0_ru_readPart, ⟨rfl, rfl⟩, rfl⟩
set_option maxRecDepth 20000 in
theorem mi0_ru_readOfTwo : q_mi (m_ru_readOfTwo 0) 1 := ⟨q_in 542 rfl rfl, q_in 4 (by decide +kernel) rfl, by decide +kernel, by decide +kernel, by decide +kernel, by decide⟩
set_option maxRecDepth 20000 in
theorem mv0_ru_readOfTwo : q_mv (m_ru_readOfTwo 0) := ⟨q_in 541 (by decide +kernel) rfl, q_is (List.mem_map.mpr ⟨_, List.mem_of_getElem? (l := lw_privs) (i := 16) rfl, rfl⟩) rfl⟩
theorem mv_ru_readOfTwo (d : Nat) : q_mi (m_ru_readOfTwo d) 1 ∧ q_mv (m_ru_readOfTwo d) ∧ q_m0 (m_ru_readOfTwo d) ∧ (q_cl[5]?).map (·.1) = some (q_y (m_ru_readOfTwo d)).cls := ⟨mi0_ru_readOfTwo, mv0_ru_readOfTwo, ⟨rfl, rfl⟩, rfl⟩
set_option maxRecDepth 20000 in
theorem mi_ru_mayOpen : q_mi m_ru_mayOpen 1 := ⟨q_in 531 rfl rfl, q_in 4 (by decide +kernel) rfl, by decide +kernel, by decide +kernel, by decide +kernel, by decide⟩
set_option maxRecDepth 20000 in
theorem mv_ru_mayOpen : q_mi m_ru_mayOpen 1 ∧ q_mv m_ru_mayOpen ∧ q_m0 m_ru_mayOpen ∧ (q_cl[5]?).map (·.1) = some (q_y m_ru_mayOpen).cls := ⟨mi_ru_mayOpen, ⟨q_in 530 (by decide +kernel) rfl, q_is (List.mem_map.mpr ⟨_, List.mem_of_getElem? (l := lw_privs) (i := 15) rfl, rfl⟩) rfl⟩, ⟨rfl, rfl⟩, rfl⟩
set_option maxRecDepth 20000 in
theorem mi_ru_setPrices : q_mi m_ru_setPrices 1 := ⟨q_in 593 rfl rfl, q_in 4 (by decide +kernel) rfl, by decide +kernel, by decide +kernel, by decide +kernel, by decide⟩
set_option maxRecDepth 20000 in
theorem mv_ru_setPrices : q_mi m_ru_setPrices 1 ∧ q_mv m_ru_setPrices ∧ q_m0 m_ru_setPrices ∧ (q_cl[5]?).map (·.1) = some (q_y m_ru_setPrices).cls := ⟨mi_ru_setPrices, ⟨q_in 591 (by decide +kernel) rfl, q_in 592 (by decide +kernel) rfl⟩, ⟨rfl, rfl⟩, rfl⟩
set_option maxRecDepth 20000 in
theorem mi_ru_priceOf : q_mi m_ru_priceOf 3 := ⟨q_in 597 rfl rfl, q_in 4 (by decide +kernel) rfl, by decide +kernel, by decide +kernel, by decide +kernel, by decide⟩
set_option maxRecDepth 20000 in
theorem mv_ru_priceOf : q_mi m_ru_priceOf 3 ∧ q_mv m_ru_priceOf ∧ q_m0 m_ru_priceOf ∧ (q_cl[5]?).map (·.1) = some (q_y m_ru_priceOf).cls := ⟨mi_ru_priceOf, ⟨q_in 596 (by decide +kernel) rfl, q_is (List.mem_map.mpr ⟨_, List.mem_of_getElem? (l := lw_privs) (i := 24) rfl, rfl⟩) rfl⟩, ⟨rfl, rfl⟩, rfl⟩
set_option maxRecDepth 20000 in
theorem mi_ru_reckon : q_mi m_ru_reckon 2 := ⟨q_in 605 rfl rfl, q_in 4 (by decide +kernel) rfl, by decide +kernel, by decide +kernel, by decide +kernel, by decide⟩
set_option maxRecDepth 20000 in
theorem mv_ru_reckon : q_mi m_ru_reckon 2 ∧ q_mv m_ru_reckon ∧ q_m0 m_ru_reckon ∧ (q_cl[5]?).map (·.1) = some (q_y m_ru_reckon).cls := ⟨mi_ru_reckon, ⟨q_in 604 (by decide +kernel) rfl, q_is (List.mem_map.mpr ⟨_, List.mem_of_getElem? (l := lw_privs) (i := 25) rfl, rfl⟩) rfl⟩, ⟨rfl, rfl⟩, rfl⟩
set_option maxRecDepth 20000 in
theorem mi_ru_push : q_mi m_ru_push 1 := ⟨q_in 609 rfl rfl, q_in 4 (by decide +kernel) rfl, by decide +kernel, by decide +kernel, by decide +kernel, by decide⟩
set_option maxRecDepth 20000 in
theorem mv_ru_push : q_mi m_ru_push 1 ∧ q_mv m_ru_push ∧ q_m0 m_ru_push ∧ (q_cl[5]?).map (·.1) = some (q_y m_ru_push).cls := ⟨mi_ru_push, ⟨q_in 608 (by decide +kernel) rfl, q_is (List.mem_map.mpr ⟨_, List.mem_of_getElem? (l := lw_privs) (i := 26) rfl, rfl⟩) rfl⟩, ⟨rfl, rfl⟩, rfl⟩
set_option maxRecDepth 20000 in
theorem mi_ru_pop : q_mi m_ru_pop 0 := ⟨q_in 613 rfl rfl, q_in 4 (by decide +kernel) rfl, by decide +kernel, by decide +kernel, by decide +kernel, by decide⟩
set_option maxRecDepth 20000 in
theorem mv_ru_pop : q_mi m_ru_pop 0 ∧ q_mv m_ru_pop ∧ q_m0 m_ru_pop ∧ (q_cl[5]?).map (·.1) = some (q_y m_ru_pop).cls := ⟨mi_ru_pop, ⟨q_in 612 (by decide +kernel) rfl, q_is (List.mem_map.mpr ⟨_, List.mem_of_getElem? (l := lw_privs) (i := 27) rfl, rfl⟩) rfl⟩, ⟨rfl, rfl⟩, rfl⟩
set_option maxRecDepth 20000 in
theorem mi_ru_doWord : q_mi m_ru_doWord 1 := ⟨q_in 635 rfl rfl, q_in 4 (by decide +kernel) rfl, by decide +kernel, by decide +kernel, by decide +kernel, by decide⟩
set_option maxRecDepth 20000 in
theorem mv_ru_doWord : q_mi m_ru_doWord 1 ∧ q_mv m_ru_doWord ∧ q_m0 m_ru_doWord ∧ (q_cl[5]?).map (·.1) = some (q_y m_ru_doWord).cls := ⟨mi_ru_doWord, ⟨q_in 634 (by decide +kernel) rfl, q_is (List.mem_map.mpr ⟨_, List.mem_of_getElem? (l := lw_privs) (i := 29) rfl, rfl⟩) rfl⟩, ⟨rfl, rfl⟩, rfl⟩
set_option maxRecDepth 20000 in
theorem mi_ru_doSign : q_mi m_ru_doSign 3 := ⟨q_in 617 rfl rfl, q_in 4 (by decide +kernel) rfl, by decide +kernel, by decide +kernel, by decide +kernel, by decide⟩
set_option maxRecDepth 20000 in
theorem mv_ru_doSign : q_mi m_ru_doSign 3 ∧ q_mv m_ru_doSign ∧ q_m0 m_ru_doSign ∧ (q_cl[5]?).map (·.1) = some (q_y m_ru_doSign).cls := ⟨mi_ru_doSign, ⟨q_in 616 (by decide +kernel) rfl, q_is (List.mem_map.mpr ⟨_, List.mem_of_getElem? (l := lw_privs) (i := 28) rfl, rfl⟩) rfl⟩, ⟨rfl, rfl⟩, rfl⟩
set_option maxRecDepth 20000 in
theorem mi_ru_bounded : q_mi m_ru_bounded 1 := ⟨q_in 620 rfl rfl, q_in 4 (by decide +kernel) rfl, by decide +kernel, by decide +kernel, by decide +kernel, by decide⟩
theorem ms_ru_bounded : q_mi m_ru_bounded 1 ∧ Cond.static (q_y m_ru_bounded) ∈ q_T ∧ q_m0 m_ru_bounded := ⟨mi_ru_bounded, q_in 619 (by decide +kernel) rfl, rfl, rfl⟩
set_option maxRecDepth 20000 in
theorem mi_tp_init : q_mi m_tp_init 0 := ⟨q_in 29 rfl rfl, q_in 2 (by decide +kernel) rfl, by decide +kernel, by decide +kernel, by decide +kernel, by decide⟩
theorem mv_tp_init : Cond.instanceMethod (q_y m_tp_init) ∈ q_T := q_in 28 (by decide +kernel) rfl
set_option maxRecDepth 20000 in
theorem mi_tp_append : q_mi m_tp_append 1 := ⟨q_in 309 rfl rfl, q_in 2 (by decide +kernel) rfl, by decide +kernel, by decide +kernel, by decide +kernel, by decide⟩
set_option maxRecDepth 20000 in
theorem mv_tp_append : q_mi m_tp_append 1 ∧ q_mv m_tp_append ∧ q_m0 m_tp_append ∧ (q_cl[6]?).map (·.1) = some (q_y m_tp_append).cls := ⟨mi_tp_append, ⟨q_in 307 (by decide +kernel) rfl, q_in 308 (by decide +kernel) rfl⟩, ⟨rfl, rfl⟩, rfl⟩
set_option maxRecDepth 20000 in
theorem mi_tp_rewind : q_mi m_tp_rewind 0 := ⟨q_in 333 rfl rfl, q_in 2 (by decide +kernel) rfl, by decide +kernel, by decide +kernel, by decide +kernel, by decide⟩
set_option maxRecDepth 20000 in
theorem mv_tp_rewind : q_mi m_tp_rewind 0 ∧ q_mv m_tp_rewind ∧ q_m0 m_tp_rewind ∧ (q_cl[6]?).map (·.1) = some (q_y m_tp_rewind).cls := ⟨mi_tp_rewind, ⟨q_in 331 (by decide +kernel) rfl, q_in 332 (by decide +kernel) rfl⟩, ⟨rfl, rfl⟩, rfl⟩
set_option maxRecDepth 20000 in
theorem mi_tp_fail : q_mi m_tp_fail 2 := ⟨q_in 406 rfl rfl, q_in 2 (by decide +kernel) rfl, by decide +kernel, by decide +kernel, by decide +kernel, by decide⟩
set_option maxRecDepth 20000 in
theorem mv_tp_fail : q_mi m_tp_fail 2 ∧ q_mv m_tp_fail ∧ q_m0 m_tp_fail ∧ (q_cl[6]?).map (·.1) = some (q_y m_tp_fail).cls := ⟨mi_tp_fail, ⟨q_in 404 (by decide +kernel) rfl, q_in 405 (by decide +kernel) rfl⟩, ⟨rfl, rfl⟩, rfl⟩
set_option maxRecDepth 20000 in
theorem mi_tp_failHere : q_mi m_tp_failHere 0 := ⟨q_in 402 rfl rfl, q_in 2 (by decide +kernel) rfl, by decide +kernel, by decide +kernel, by decide +kernel, by decide⟩
set_option maxRecDepth 20000 in
theorem mv_tp_failHere : q_mi m_tp_failHere 0 ∧ q_mv m_tp_failHere ∧ q_m0 m_tp_failHere ∧ (q_cl[6]?).map (·.1) = some (q_y m_tp_failHere).cls := ⟨mi_tp_failHere, ⟨q_in 400 (by decide +kernel) rfl, q_in 401 (by decide +kernel) rfl⟩, ⟨rfl, rfl⟩, rfl⟩
set_option maxRecDepth 20000 in
theorem mi_tp_skipBlanks : q_mi m_tp_skipBlanks 0 := ⟨q_in 337 rfl rfl, q_in 2 (by decide +kernel) rfl, by decide +kernel, by decide +kernel, by decide +kernel, by decide⟩
set_option maxRecDepth 20000 in
theorem mv_tp_skipBlanks : q_mi m_tp_skipBlanks 0 ∧ q_mv m_tp_skipBlanks ∧ q_m0 m_tp_skipBlanks ∧ (q_cl[6]?).map (·.1) = some (q_y m_tp_skipBlanks).cls := ⟨mi_tp_skipBlanks, ⟨q_in 335 (by decide +kernel) rfl, q_in 336 (by decide +kernel) rfl⟩, ⟨rfl, rfl⟩, rfl⟩
set_option maxRecDepth 20000 in
theorem mi_tp_takeSign : q_mi m_tp_takeSign 1 := ⟨q_in 536 rfl rfl, q_in 2 (by decide +kernel) rfl, by decide +kernel, by decide +kernel, by decide +kernel, by decide⟩
set_option maxRecDepth 20000 in
theorem mv_tp_takeSign : q_mi m_tp_takeSign 1 ∧ q_mv m_tp_takeSign ∧ q_m0 m_tp_takeSign ∧ (q_cl[6]?).map (·.1) = some (q_y m_tp_takeSign).cls := ⟨mi_tp_takeSign, ⟨q_in 534 (by decide +kernel) rfl, q_in 535 (by decide +kernel) rfl⟩, ⟨rfl, rfl⟩, rfl⟩
set_option maxRecDepth 20000 in
theorem mi_tp_passOver : q_mi m_tp_passOver 1 := ⟨q_in 458 rfl rfl, q_in 2 (by decide +kernel) rfl, by decide +kernel, by decide +kernel, by decide +kernel, by decide⟩
set_option maxRecDepth 20000 in
theorem mv_tp_passOver : q_mi m_tp_passOver 1 ∧ q_mv m_tp_passOver ∧ q_m0 m_tp_passOver ∧ (q_cl[6]?).map (·.1) = some (q_y m_tp_passOver).cls := ⟨mi_tp_passOver, ⟨q_in 456 (by decide +kernel) rfl, q_in 457 (by decide +kernel) rfl⟩, ⟨rfl, rfl⟩, rfl⟩
set_option maxRecDepth 20000 in
theorem mi_tp_wordHere : q_mi m_tp_wordHere 0 := ⟨q_in 345 rfl rfl, q_in 2 (by decide +kernel) rfl, by decide +kernel, by decide +kernel, by decide +kernel, by decide⟩
set_option maxRecDepth 20000 in
theorem mv_tp_wordHere : q_mi m_tp_wordHere 0 ∧ q_mv m_tp_wordHere ∧ q_m0 m_tp_wordHere ∧ (q_cl[6]?).map (·.1) = some (q_y m_tp_wordHere).cls := ⟨mi_tp_wordHere, ⟨q_in 343 (by decide +kernel) rfl, q_in 344 (by decide +kernel) rfl⟩, ⟨rfl, rfl⟩, rfl⟩
set_option maxRecDepth 20000 in
theorem mi_tp_takeWord : q_mi m_tp_takeWord 1 := ⟨q_in 479 rfl rfl, q_in 2 (by decide +kernel) rfl, by decide +kernel, by decide +kernel, by decide +kernel, by decide⟩
set_option maxRecDepth 20000 in
theorem mv_tp_takeWord : q_mi m_tp_takeWord 1 ∧ q_mv m_tp_takeWord ∧ q_m0 m_tp_takeWord ∧ (q_cl[6]?).map (·.1) = some (q_y m_tp_takeWord).cls := ⟨mi_tp_takeWord, ⟨q_in 477 (by decide +kernel) rfl, q_in 478 (by decide +kernel) rfl⟩, ⟨rfl, rfl⟩, rfl⟩
set_option maxRecDepth 20000 in
theorem mi_tp_passOverWord : q_mi m_tp_passOverWord 1 := ⟨q_in 504 rfl rfl, q_in 2 (by decide +kernel) rfl, by decide +kernel, by decide +kernel, by decide +kernel, by decide⟩
set_option maxRecDepth 20000 in
theorem mv_tp_passOverWord : q_mi m_tp_passOverWord 1 ∧ q_mv m_tp_passOverWord ∧ q_m0 m_tp_passOverWord ∧ (q_cl[6]?).map (·.1) = some (q_y m_tp_passOverWord).cls := ⟨mi_tp_passOverWord, ⟨q_in 502 (by decide +kernel) rfl, q_in 503 (by decide +kernel) rfl⟩, ⟨rfl, rfl⟩, rfl⟩
set_option maxRecDepth 20000 in
theorem mi_tp_takeWordHere : q_mi m_tp_takeWordHere 0 := ⟨q_in 410 rfl rfl, q_in 2 (by decide +kernel) rfl, by decide +kernel, by decide +kernel, by decide +kernel, by decide⟩
set_option maxRecDepth 20000 in
theorem mv_tp_takeWordHere : q_mi m_tp_takeWordHere 0 ∧ q_mv m_tp_takeWordHere ∧ q_m0 m_tp_takeWordHere ∧ (q_cl[6]?).map (·.1) = some (q_y m_tp_takeWordHere).cls := ⟨mi_tp_takeWordHere, ⟨q_in 408 (by decide +kernel) rfl, q_in 409 (by decide +kernel) rfl⟩, ⟨rfl, rfl⟩, rfl⟩
set_option maxRecDepth 20000 in
theorem mi_tp_takeNumber : q_mi m_tp_takeNumber 2 := ⟨q_in 451 rfl rfl, q_in 2 (by decide +kernel) rfl, by decide +kernel, by decide +kernel, by decide +kernel, by decide⟩
set_option maxRecDepth 20000 in
theorem mv_tp_takeNumber : q_mi m_tp_takeNumber 2 ∧ q_mv m_tp_takeNumber ∧ q_m0 m_tp_takeNumber ∧ (q_cl[6]?).map (·.1) = some (q_y m_tp_takeNumber).cls := ⟨mi_tp_takeNumber, ⟨q_in 449 (by decide +kernel) rfl, q_in 450 (by decide +kernel) rfl⟩, ⟨rfl, rfl⟩, rfl⟩
set_option maxRecDepth 20000 in
theorem mi_tp_takeName : q_mi m_tp_takeName 0 := ⟨q_in 422 rfl rfl, q_in 2 (by decide +kernel) rfl, by decide +kernel, by decide +kernel, by decide +kernel, by decide⟩
set_option maxRecDepth 20000 in
theorem mv_tp_takeName : q_mi m_tp_takeName 0 ∧ q_mv m_tp_takeName ∧ q_m0 m_tp_takeName ∧ (q_cl[6]?).map (·.1) = some (q_y m_tp_takeName).cls := ⟨mi_tp_takeName, ⟨q_in 420 (by decide +kernel) rfl, q_in 421 (by decide +kernel) rfl⟩, ⟨rfl, rfl⟩, rfl⟩
set_option maxRecDepth 20000 in
theorem mi_tp_letterOf : q_mi m_tp_letterOf 2 := ⟨q_in 682 rfl rfl, q_in 2 (by decide +kernel) rfl, by decide +kernel, by decide +kernel, by decide +kernel, by decide⟩
theorem ms_tp_letterOf : q_mi m_tp_letterOf 2 ∧ Cond.static (q_y m_tp_letterOf) ∈ q_T ∧ q_m0 m_tp_letterOf := ⟨mi_tp_letterOf, q_in 681 (by decide +kernel) rfl, rfl, rfl⟩
set_option maxRecDepth 20000 in
theorem mi_tp_isDigit : q_mi m_tp_isDigit 1 := ⟨q_in 454 rfl rfl, q_in 2 (by decide +kernel) rfl, by decide +kernel, by decide +kernel, by decide +kernel, by decide⟩
theorem ms_tp_isDigit : q_mi m_tp_isDigit 1 ∧ Cond.static (q_y m_tp_isDigit) ∈ q_T ∧ q_m0 m_tp_isDigit := ⟨mi_tp_isDigit, q_in 453 (by decide +kernel) rfl, rfl, rfl⟩
set_option maxRecDepth 20000 in
theorem mi_tp_isLetter : q_mi m_tp_isLetter 1 := ⟨q_in 349 rfl rfl, q_in 2 (by decide +kernel) rfl, by decide +kernel, by decide +kernel, by decide +kernel, by decide⟩
theorem ms_tp_isLetter : q_mi m_tp_isLetter 1 ∧ Cond.static (q_y m_tp_isLetter) ∈ q_T ∧ q_m0 m_tp_isLetter := ⟨mi_tp_isLetter, q_in 348 (by decide +kernel) rfl, rfl, rfl⟩
set_option maxRecDepth 20000 in
theorem mi_hs_init : q_mi m_hs_init 0 := ⟨q_in 21 rfl rfl, q_in 1 (by decide +kernel) rfl, by decide +kernel, by decide +kernel, by decide +kernel, by decide⟩
theorem mv_hs_init : Cond.instanceMethod (q_y m_hs_init) ∈ q_T := q_in 20 (by decide +kernel) rfl
set_option maxRecDepth 20000 in
theorem mi_hs_feed : q_mi m_hs_feed 5 := ⟨q_in 305 rfl rfl, q_in 1 (by decide +kernel) rfl, by decide +kernel, by decide +kernel, by decide +kernel, by decide⟩
set_option maxRecDepth 20000 in
theorem mv_hs_feed : q_mi m_hs_feed 5 ∧ q_mv m_hs_feed ∧ q_m0 m_hs_feed ∧ (q_cl[7]?).map (·.1) = some (q_y m_hs_feed).cls := ⟨mi_hs_feed, ⟨q_in 303 (by decide +kernel) rfl, q_in 304 (by decide +kernel) rfl⟩, ⟨rfl, rfl⟩, rfl⟩
set_option maxRecDepth 20000 in
theorem mi_hs_end : q_mi m_hs_end 1 := ⟨q_in 313 rfl rfl, q_in 1 (by decide +kernel) rfl, by decide +kernel, by decide +kernel, by decide +kernel, by decide⟩
set_option maxRecDepth 20000 in
theorem mv_hs_end : q_mi m_hs_end 1 ∧ q_mv m_hs_end ∧ q_m0 m_hs_end ∧ (q_cl[7]?).map (·.1) = some (q_y m_hs_end).cls := ⟨mi_hs_end, ⟨q_in 311 (by decide +kernel) rfl, q_in 312 (by decide +kernel) rfl⟩, ⟨rfl, rfl⟩, rfl⟩
set_option maxRecDepth 20000 in
theorem mi_hs_guild : q_mi m_hs_guild 0 := ⟨q_in 317 rfl rfl, q_in 1 (by decide +kernel) rfl, by decide +kernel, by decide +kernel, by decide +kernel, by decide⟩
set_option maxRecDepth 20000 in
theorem mv_hs_guild : q_mi m_hs_guild 0 ∧ q_mv m_hs_guild ∧ q_m0 m_hs_guild ∧ (q_cl[7]?).map (·.1) = some (q_y m_hs_guild).cls := ⟨mi_hs_guild, ⟨q_in 315 (by decide +kernel) rfl, q_in 316 (by decide +kernel) rfl⟩, ⟨rfl, rfl⟩, rfl⟩
set_option maxRecDepth 20000 in
theorem mi_hs_fault : q_mi m_hs_fault 1 := ⟨q_in 645 rfl rfl, q_in 1 (by decide +kernel) rfl, by decide +kernel, by decide +kernel, by decide +kernel, by decide⟩
set_option maxRecDepth 20000 in
theorem mv_hs_fault : q_mi m_hs_fault 1 ∧ q_mv m_hs_fault ∧ q_m0 m_hs_fault ∧ (q_cl[7]?).map (·.1) = some (q_y m_hs_fault).cls := ⟨mi_hs_fault, ⟨q_in 643 (by decide +kernel) rfl, q_in 644 (by decide +kernel) rfl⟩, ⟨rfl, rfl⟩, rfl⟩
set_option maxRecDepth 20000 in
theorem mi_hs_has : q_mi m_hs_has 1 := ⟨q_in 649 rfl rfl, q_in 1 (by decide +kernel) rfl, by decide +kernel, by decide +kernel, by decide +kernel, by decide⟩
set_option maxRecDepth 20000 in
theorem mv_hs_has : q_mi m_hs_has 1 ∧ q_mv m_hs_has ∧ q_m0 m_hs_has ∧ (q_cl[7]?).map (·.1) = some (q_y m_hs_has).cls := ⟨mi_hs_has, ⟨q_in 647 (by decide +kernel) rfl, q_in 648 (by decide +kernel) rfl⟩, ⟨rfl, rfl⟩, rfl⟩
set_option maxRecDepth 20000 in
theorem mi_hs_letter : q_mi m_hs_letter 3 := ⟨q_in 675 rfl rfl, q_in 1 (by decide +kernel) rfl, by decide +kernel, by decide +kernel, by decide +kernel, by decide⟩
set_option maxRecDepth 20000 in
theorem mv_hs_letter : q_mi m_hs_letter 3 ∧ q_mv m_hs_letter ∧ q_m0 m_hs_letter ∧ (q_cl[7]?).map (·.1) = some (q_y m_hs_letter).cls := ⟨mi_hs_letter, ⟨q_in 673 (by decide +kernel) rfl, q_in 674 (by decide +kernel) rfl⟩, ⟨rfl, rfl⟩, rfl⟩
set_option maxRecDepth 20000 in
theorem mi_hs_trait : q_mi m_hs_trait 3 := ⟨q_in 686 rfl rfl, q_in 1 (by decide +kernel) rfl, by decide +kernel, by decide +kernel, by decide +kernel, by decide⟩
set_option maxRecDepth 20000 in
theorem mv_hs_trait : q_mi m_hs_trait 3 ∧ q_mv m_hs_trait ∧ q_m0 m_hs_trait ∧ (q_cl[7]?).map (·.1) = some (q_y m_hs_trait).cls := ⟨mi_hs_trait, ⟨q_in 684 (by decide +kernel) rfl, q_in 685 (by decide +kernel) rfl⟩, ⟨rfl, rfl⟩, rfl⟩
set_option maxRecDepth 20000 in
theorem mi_hs_seen : q_mi m_hs_seen 2 := ⟨q_in 690 rfl rfl, q_in 1 (by decide +kernel) rfl, by decide +kernel, by decide +kernel, by decide +kernel, by decide⟩
set_option maxRecDepth 20000 in
theorem mv_hs_seen : q_mi m_hs_seen 2 ∧ q_mv m_hs_seen ∧ q_m0 m_hs_seen ∧ (q_cl[7]?).map (·.1) = some (q_y m_hs_seen).cls := ⟨mi_hs_seen, ⟨q_in 688 (by decide +kernel) rfl, q_in 689 (by decide +kernel) rfl⟩, ⟨rfl, rfl⟩, rfl⟩
set_option maxRecDepth 20000 in
theorem mi_hs_far : q_mi m_hs_far 2 := ⟨q_in 698 rfl rfl, q_in 1 (by decide +kernel) rfl, by decide +kernel, by decide +kernel, by decide +kernel, by decide⟩
set_option maxRecDepth 20000 in
theorem mv_hs_far : q_mi m_hs_far 2 ∧ q_mv m_hs_far ∧ q_m0 m_hs_far ∧ (q_cl[7]?).map (·.1) = some (q_y m_hs_far).cls := ⟨mi_hs_far, ⟨q_in 696 (by decide +kernel) rfl, q_in 697 (by decide +kernel) rfl⟩, ⟨rfl, rfl⟩, rfl⟩
set_option maxRecDepth 20000 in
theorem mi_hs_pass : q_mi m_hs_pass 2 := ⟨q_in 702 rfl rfl, q_in 1 (by decide +kernel) rfl, by decide +kernel, by decide +kernel, by decide +kernel, by decide⟩
set_option maxRecDepth 20000 in
theorem mv_hs_pass : q_mi m_hs_pass 2 ∧ q_mv m_hs_pass ∧ q_m0 m_hs_pass ∧ (q_cl[7]?).map (·.1) = some (q_y m_hs_pass).cls := ⟨mi_hs_pass, ⟨q_in 700 (by decide +kernel) rfl, q_in 701 (by decide +kernel) rfl⟩, ⟨rfl, rfl⟩, rfl⟩
set_option maxRecDepth 20000 in
theorem mi_hs_price : q_mi m_hs_price 2 := ⟨q_in 710 rfl rfl, q_in 1 (by decide +kernel) rfl, by decide +kernel, by decide +kernel, by decide +kernel, by decide⟩
set_option maxRecDepth 20000 in
theorem mv_hs_price : q_mi m_hs_price 2 ∧ q_mv m_hs_price ∧ q_m0 m_hs_price ∧ (q_cl[7]?).map (·.1) = some (q_y m_hs_price).cls := ⟨mi_hs_price, ⟨q_in 708 (by decide +kernel) rfl, q_in 709 (by decide +kernel) rfl⟩, ⟨rfl, rfl⟩, rfl⟩
set_option maxRecDepth 20000 in
theorem mi_hs_best : q_mi m_hs_best 3 := ⟨q_in 714 rfl rfl, q_in 1 (by decide +kernel) rfl, by decide +kernel, by decide +kernel, by decide +kernel, by decide⟩
set_option maxRecDepth 20000 in
theorem mv_hs_best : q_mi m_hs_best 3 ∧ q_mv m_hs_best ∧ q_m0 m_hs_best ∧ (q_cl[7]?).map (·.1) = some (q_y m_hs_best).cls := ⟨mi_hs_best, ⟨q_in 712 (by decide +kernel) rfl, q_in 713 (by decide +kernel) rfl⟩, ⟨rfl, rfl⟩, rfl⟩
set_option maxRecDepth 20000 in
theorem mi_hs_isBetter : q_mi m_hs_isBetter 4 := ⟨q_in 718 rfl rfl, q_in 1 (by decide +kernel) rfl, by decide +kernel, by decide +kernel, by decide +kernel, by decide⟩
set_option maxRecDepth 20000 in
theorem mv_hs_isBetter : q_mi m_hs_isBetter 4 ∧ q_mv m_hs_isBetter ∧ q_m0 m_hs_isBetter ∧ (q_cl[7]?).map (·.1) = some (q_y m_hs_isBetter).cls := ⟨mi_hs_isBetter, ⟨q_in 717 (by decide +kernel) rfl, q_is (List.mem_map.mpr ⟨_, List.mem_of_getElem? (l := lw_privs) (i := 34) rfl, rfl⟩) rfl⟩, ⟨rfl, rfl⟩, rfl⟩
set_option maxRecDepth 20000 in
theorem mi_hs_whose : q_mi m_hs_whose 2 := ⟨q_in 722 rfl rfl, q_in 1 (by decide +kernel) rfl, by decide +kernel, by decide +kernel, by decide +kernel, by decide⟩
set_option maxRecDepth 20000 in
theorem mv_hs_whose : q_mi m_hs_whose 2 ∧ q_mv m_hs_whose ∧ q_m0 m_hs_whose ∧ (q_cl[7]?).map (·.1) = some (q_y m_hs_whose).cls := ⟨mi_hs_whose, ⟨q_in 720 (by decide +kernel) rfl, q_in 721 (by decide +kernel) rfl⟩, ⟨rfl, rfl⟩, rfl⟩
set_option maxRecDepth 20000 in
theorem mi_hs_weightOf : q_mi m_hs_weightOf 2 := ⟨q_in 726 rfl rfl, q_in 1 (by decide +kernel) rfl, by decide +kernel, by decide +kernel, by decide +kernel, by decide⟩
set_option maxRecDepth 20000 in
theorem mv_hs_weightOf : q_mi m_hs_weightOf 2 ∧ q_mv m_hs_weightOf ∧ q_m0 m_hs_weightOf ∧ (q_cl[7]?).map (·.1) = some (q_y m_hs_weightOf).cls := ⟨mi_hs_weightOf, ⟨q_in 725 (by decide +kernel) rfl, q_is (List.mem_map.mpr ⟨_, List.mem_of_getElem? (l := lw_privs) (i := 35) rfl, rfl⟩) rfl⟩, ⟨rfl, rfl⟩, rfl⟩
set_option maxRecDepth 20000 in
theorem mi_hs_canBe : q_mi m_hs_canBe 2 := ⟨q_in 738 rfl rfl, q_in 1 (by decide +kernel) rfl, by decide +kernel, by decide +kernel, by decide +kernel, by decide⟩
set_option maxRecDepth 20000 in
theorem mv_hs_canBe : q_mi m_hs_canBe 2 ∧ q_mv m_hs_canBe ∧ q_m0 m_hs_canBe ∧ (q_cl[7]?).map (·.1) = some (q_y m_hs_canBe).cls := ⟨mi_hs_canBe, ⟨q_in 736 (by decide +kernel) rfl, q_in 737 (by decide +kernel) rfl⟩, ⟨rfl, rfl⟩, rfl⟩
set_option maxRecDepth 20000 in
theorem mi_hs_chain : q_mi m_hs_chain 2 := ⟨q_in 742 rfl rfl, q_in 1 (by decide +kernel) rfl, by decide +kernel, by decide +kernel, by decide +kernel, by decide⟩
set_option maxRecDepth 20000 in
theorem mv_hs_chain : q_mi m_hs_chain 2 ∧ q_mv m_hs_chain ∧ q_m0 m_hs_chain ∧ (q_cl[7]?).map (·.1) = some (q_y m_hs_chain).cls := ⟨mi_hs_chain, ⟨q_in 740 (by decide +kernel) rfl, q_in 741 (by decide +kernel) rfl⟩, ⟨rfl, rfl⟩, rfl⟩
set_option maxRecDepth 20000 in
theorem mi_hs_shades : q_mi m_hs_shades 1 := ⟨q_in 763 rfl rfl, q_in 1 (by decide +kernel) rfl, by decide +kernel, by decide +kernel, by decide +kernel, by decide⟩
set_option maxRecDepth 20000 in
theorem mv_hs_shades : q_mi m_hs_shades 1 ∧ q_mv m_hs_shades ∧ q_m0 m_hs_shades ∧ (q_cl[7]?).map (·.1) = some (q_y m_hs_shades).cls := ⟨mi_hs_shades, ⟨q_in 761 (by decide +kernel) rfl, q_in 762 (by decide +kernel) rfl⟩, ⟨rfl, rfl⟩, rfl⟩
set_option maxRecDepth 20000 in
theorem mi_hs_fewestShades : q_mi m_hs_fewestShades 1 := ⟨q_in 767 rfl rfl, q_in 1 (by decide +kernel) rfl, by decide +kernel, by decide +kernel, by decide +kernel, by decide⟩
set_option maxRecDepth 20000 in
theorem mv_hs_fewestShades : q_mi m_hs_fewestShades 1 ∧ q_mv m_hs_fewestShades ∧ q_m0 m_hs_fewestShades ∧ (q_cl[7]?).map (·.1) = some (q_y m_hs_fewestShades).cls := ⟨mi_hs_fewestShades, ⟨q_in 766 (by decide +kernel) rfl, q_is (List.mem_map.mpr ⟨_, List.mem_of_getElem? (l := lw_privs) (i := 38) rfl, rfl⟩) rfl⟩, ⟨rfl, rfl⟩, rfl⟩
set_option maxRecDepth 20000 in
theorem mi_hs_must : q_mi m_hs_must 1 := ⟨q_in 771 rfl rfl, q_in 1 (by decide +kernel) rfl, by decide +kernel, by decide +kernel, by decide +kernel, by decide⟩
set_option maxRecDepth 20000 in
theorem mv_hs_must : q_mi m_hs_must 1 ∧ q_mv m_hs_must ∧ q_m0 m_hs_must ∧ (q_cl[7]?).map (·.1) = some (q_y m_hs_must).cls := ⟨mi_hs_must, ⟨q_in 769 (by decide +kernel) rfl, q_in 770 (by decide +kernel) rfl⟩, ⟨rfl, rfl⟩, rfl⟩
set_option maxRecDepth 20000 in
theorem mi_hs_clash : q_mi m_hs_clash 1 := ⟨q_in 775 rfl rfl, q_in 1 (by decide +kernel) rfl, by decide +kernel, by decide +kernel, by decide +kernel, by decide⟩
set_option maxRecDepth 20000 in
theorem mv_hs_clash : q_mi m_hs_clash 1 ∧ q_mv m_hs_clash ∧ q_m0 m_hs_clash ∧ (q_cl[7]?).map (·.1) = some (q_y m_hs_clash).cls := ⟨mi_hs_clash, ⟨q_in 773 (by decide +kernel) rfl, q_in 774 (by decide +kernel) rfl⟩, ⟨rfl, rfl⟩, rfl⟩
set_option maxRecDepth 20000 in
theorem mi_hs_could : q_mi m_hs_could 3 := ⟨q_in 779 rfl rfl, q_in 1 (by decide +kernel) rfl, by decide +kernel, by decide +kernel, by decide +kernel, by decide⟩
set_option maxRecDepth 20000 in
theorem mv_hs_could : q_mi m_hs_could 3 ∧ q_mv m_hs_could ∧ q_m0 m_hs_could ∧ (q_cl[7]?).map (·.1) = some (q_y m_hs_could).cls := ⟨mi_hs_could, ⟨q_in 777 (by decide +kernel) rfl, q_in 778 (by decide +kernel) rfl⟩, ⟨rfl, rfl⟩, rfl⟩
set_option maxRecDepth 20000 in
theorem mi_hs_ways : q_mi m_hs_ways 1 := ⟨q_in 788 rfl rfl, q_in 1 (by decide +kernel) rfl, by decide +kernel, by decide +kernel, by decide +kernel, by decide⟩
set_option maxRecDepth 20000 in
theorem mv_hs_ways : q_mi m_hs_ways 1 ∧ q_mv m_hs_ways ∧ q_m0 m_hs_ways ∧ (q_cl[7]?).map (·.1) = some (q_y m_hs_ways).cls := ⟨mi_hs_ways, ⟨q_in 786 (by decide +kernel) rfl, q_in 787 (by decide +kernel) rfl⟩, ⟨rfl, rfl⟩, rfl⟩
set_option maxRecDepth 20000 in
theorem mi_hs_hire : q_mi m_hs_hire 2 := ⟨q_in 824 rfl rfl, q_in 1 (by decide +kernel) rfl, by decide +kernel, by decide +kernel, by decide +kernel, by decide⟩
set_option maxRecDepth 20000 in
theorem mv_hs_hire : q_mi m_hs_hire 2 ∧ q_mv m_hs_hire ∧ q_m0 m_hs_hire ∧ (q_cl[7]?).map (·.1) = some (q_y m_hs_hire).cls := ⟨mi_hs_hire, ⟨q_in 822 (by decide +kernel) rfl, q_in 823 (by decide +kernel) rfl⟩, ⟨rfl, rfl⟩, rfl⟩
set_option maxRecDepth 20000 in
theorem mi_hs_undo : q_mi m_hs_undo 0 := ⟨q_in 835 rfl rfl, q_in 1 (by decide +kernel) rfl, by decide +kernel, by decide +kernel, by decide +kernel, by decide⟩
set_option maxRecDepth 20000 in
theorem mv_hs_undo : q_mi m_hs_undo 0 ∧ q_mv m_hs_undo ∧ q_m0 m_hs_undo ∧ (q_cl[7]?).map (·.1) = some (q_y m_hs_undo).cls := ⟨mi_hs_undo, ⟨q_in 833 (by decide +kernel) rfl, q_in 834 (by decide +kernel) rfl⟩, ⟨rfl, rfl⟩, rfl⟩
set_option maxRecDepth 20000 in
theorem mi_hs_crew : q_mi m_hs_crew 3 := ⟨q_in 843 rfl rfl, q_in 1 (by decide +kernel) rfl, by decide +kernel, by decide +kernel, by decide +kernel, by decide⟩
set_option maxRecDepth 20000 in
theorem mv_hs_crew : q_mi m_hs_crew 3 ∧ q_mv m_hs_crew ∧ q_m0 m_hs_crew ∧ (q_cl[7]?).map (·.1) = some (q_y m_hs_crew).cls := ⟨mi_hs_crew, ⟨q_in 841 (by decide +kernel) rfl, q_in 842 (by decide +kernel) rfl⟩, ⟨rfl, rfl⟩, rfl⟩
set_option maxRecDepth 20000 in
theorem mi_hs_take : q_mi m_hs_take 2 := ⟨q_in 859 rfl rfl, q_in 1 (by decide +kernel) rfl, by decide +kernel, by decide +kernel, by decide +kernel, by decide⟩
set_option maxRecDepth 20000 in
theorem mv_hs_take : q_mi m_hs_take 2 ∧ q_mv m_hs_take ∧ q_m0 m_hs_take ∧ (q_cl[7]?).map (·.1) = some (q_y m_hs_take).cls := ⟨mi_hs_take, ⟨q_in 857 (by decide +kernel) rfl, q_in 858 (by decide +kernel) rfl⟩, ⟨rfl, rfl⟩, rfl⟩
set_option maxRecDepth 20000 in
theorem mi_hs_findCrew : q_mi m_hs_findCrew 2 := ⟨q_in 847 rfl rfl, q_in 1 (by decide +kernel) rfl, by decide +kernel, by decide +kernel, by decide +kernel, by decide⟩
set_option maxRecDepth 20000 in
theorem mv_hs_findCrew : q_mi m_hs_findCrew 2 ∧ q_mv m_hs_findCrew ∧ q_m0 m_hs_findCrew ∧ (q_cl[7]?).map (·.1) = some (q_y m_hs_findCrew).cls := ⟨mi_hs_findCrew, ⟨q_in 846 (by decide +kernel) rfl, q_is (List.mem_map.mpr ⟨_, List.mem_of_getElem? (l := lw_privs) (i := 45) rfl, rfl⟩) rfl⟩, ⟨rfl, rfl⟩, rfl⟩
set_option maxRecDepth 20000 in
theorem mi_hs_crowd : q_mi m_hs_crowd 4 := ⟨q_in 863 rfl rfl, q_in 1 (by decide +kernel) rfl, by decide +kernel, by decide +kernel, by decide +kernel, by decide⟩
set_option maxRecDepth 20000 in
theorem mv_hs_crowd : q_mi m_hs_crowd 4 ∧ q_mv m_hs_crowd ∧ q_m0 m_hs_crowd ∧ (q_cl[7]?).map (·.1) = some (q_y m_hs_crowd).cls := ⟨mi_hs_crowd, ⟨q_in 861 (by decide +kernel) rfl, q_in 862 (by decide +kernel) rfl⟩, ⟨rfl, rfl⟩, rfl⟩
set_option maxRecDepth 20000 in
theorem mi_hs_cheapestOf : q_mi m_hs_cheapestOf 1 := ⟨q_in 868 rfl rfl, q_in 1 (by decide +kernel) rfl, by decide +kernel, by decide +kernel, by decide +kernel, by decide⟩
set_option maxRecDepth 20000 in
theorem mv_hs_cheapestOf : q_mi m_hs_cheapestOf 1 ∧ q_mv m_hs_cheapestOf ∧ q_m0 m_hs_cheapestOf ∧ (q_cl[7]?).map (·.1) = some (q_y m_hs_cheapestOf).cls := ⟨mi_hs_cheapestOf, ⟨q_in 867 (by decide +kernel) rfl, q_is (List.mem_map.mpr ⟨_, List.mem_of_getElem? (l := lw_privs) (i := 47) rfl, rfl⟩) rfl⟩, ⟨rfl, rfl⟩, rfl⟩
set_option maxRecDepth 20000 in
theorem mi_hs_shade : q_mi m_hs_shade 2 := ⟨q_in 872 rfl rfl, q_in 1 (by decide +kernel) rfl, by decide +kernel, by decide +kernel, by decide +kernel, by decide⟩
set_option maxRecDepth 20000 in
theorem mv_hs_shade : q_mi m_hs_shade 2 ∧ q_mv m_hs_shade ∧ q_m0 m_hs_shade ∧ (q_cl[7]?).map (·.1) = some (q_y m_hs_shade).cls := ⟨mi_hs_shade, ⟨q_in 870 (by decide +kernel) rfl, q_in 871 (by decide +kernel) rfl⟩, ⟨rfl, rfl⟩, rfl⟩
set_option maxRecDepth 20000 in
theorem mi_hs_pricesOf : q_mi m_hs_pricesOf 2 := ⟨q_in 876 rfl rfl, q_in 1 (by decide +kernel) rfl, by decide +kernel, by decide +kernel, by decide +kernel, by decide⟩
set_option maxRecDepth 20000 in
theorem mv_hs_pricesOf : q_mi m_hs_pricesOf 2 ∧ q_mv m_hs_pricesOf ∧ q_m0 m_hs_pricesOf ∧ (q_cl[7]?).map (·.1) = some (q_y m_hs_pricesOf).cls := ⟨mi_hs_pricesOf, ⟨q_in 875 (by decide +kernel) rfl, q_is (List.mem_map.mpr ⟨_, List.mem_of_getElem? (l := lw_privs) (i := 48) rfl, rfl⟩) rfl⟩, ⟨rfl, rfl⟩, rfl⟩
set_option maxRecDepth 20000 in
theorem mi_hs_leastPassOf : q_mi m_hs_leastPassOf 2 := ⟨q_in 889 rfl rfl, q_in 1 (by decide +kernel) rfl, by decide +kernel, by decide +kernel, by decide +kernel, by decide⟩
set_option maxRecDepth 20000 in
theorem mv_hs_leastPassOf : q_mi m_hs_leastPassOf 2 ∧ q_mv m_hs_leastPassOf ∧ q_m0 m_hs_leastPassOf ∧ (q_cl[7]?).map (·.1) = some (q_y m_hs_leastPassOf).cls := ⟨mi_hs_leastPassOf, ⟨q_in 888 (by decide +kernel) rfl, q_is (List.mem_map.mpr ⟨_, List.mem_of_getElem? (l := lw_privs) (i := 49) rfl, rfl⟩) rfl⟩, ⟨rfl, rfl⟩, rfl⟩
set_option maxRecDepth 20000 in
theorem mi_hs_seed : q_mi m_hs_seed 1 := ⟨q_in 893 rfl rfl, q_in 1 (by decide +kernel) rfl, by decide +kernel, by decide +kernel, by decide +kernel, by decide⟩
set_option maxRecDepth 20000 in
theorem mv_hs_seed : q_mi m_hs_seed 1 ∧ q_mv m_hs_seed ∧ q_m0 m_hs_seed ∧ (q_cl[7]?).map (·.1) = some (q_y m_hs_seed).cls := ⟨mi_hs_seed, ⟨q_in 891 (by decide +kernel) rfl, q_in 892 (by decide +kernel) rfl⟩, ⟨rfl, rfl⟩, rfl⟩
set_option maxRecDepth 20000 in
theorem mi_hs_days : q_mi m_hs_days 2 := ⟨q_in 897 rfl rfl, q_in 1 (by decide +kernel) rfl, by decide +kernel, by decide +kernel, by decide +kernel, by decide⟩
set_option maxRecDepth 20000 in
theorem mv_hs_days : q_mi m_hs_days 2 ∧ q_mv m_hs_days ∧ q_m0 m_hs_days ∧ (q_cl[7]?).map (·.1) = some (q_y m_hs_days).cls := ⟨mi_hs_days, ⟨q_in 895 (by decide +kernel) rfl, q_in 896 (by decide +kernel) rfl⟩, ⟨rfl, rfl⟩, rfl⟩
set_option maxRecDepth 20000 in
theorem mi_hs_drawOfThousand : q_mi m_hs_drawOfThousand 0 := ⟨q_in 902 rfl rfl, q_in 1 (by decide +kernel) rfl, by decide +kernel, by decide +kernel, by decide +kernel, by decide⟩
set_option maxRecDepth 20000 in
theorem mv_hs_drawOfThousand : q_mi m_hs_drawOfThousand 0 ∧ q_mv m_hs_drawOfThousand ∧ q_m0 m_hs_drawOfThousand ∧ (q_cl[7]?).map (·.1) = some (q_y m_hs_drawOfThousand).cls := ⟨mi_hs_drawOfThousand, ⟨q_in 901 (by decide +kernel) rfl, q_is (List.mem_map.mpr ⟨_, List.mem_of_getElem? (l := lw_privs) (i := 50) rfl, rfl⟩) rfl⟩, ⟨rfl, rfl⟩, rfl⟩
set_option maxRecDepth 20000 in
theorem mi_hs_average : q_mi m_hs_average 0 := ⟨q_in 913 rfl rfl, q_in 1 (by decide +kernel) rfl, by decide +kernel, by decide +kernel, by decide +kernel, by decide⟩
set_option maxRecDepth 20000 in
theorem mv_hs_average : q_mi m_hs_average 0 ∧ q_mv m_hs_average ∧ q_m0 m_hs_average ∧ (q_cl[7]?).map (·.1) = some (q_y m_hs_average).cls := ⟨mi_hs_average, ⟨q_in 911 (by decide +kernel) rfl, q_in 912 (by decide +kernel) rfl⟩, ⟨rfl, rfl⟩, rfl⟩
set_option maxRecDepth 20000 in
theorem mi_hs_image : q_mi m_hs_image 0 := ⟨q_in 917 rfl rfl, q_in 1 (by decide +kernel) rfl, by decide +kernel, by decide +kernel, by decide +kernel, by decide⟩
set_option maxRecDepth 20000 in
theorem mv_hs_image : q_mi m_hs_image 0 ∧ q_mv m_hs_image ∧ q_m0 m_hs_image ∧ (q_cl[7]?).map (·.1) = some (q_y m_hs_image).cls := ⟨mi_hs_image, ⟨q_in 915 (by decide +kernel) rfl, q_in 916 (by decide +kernel) rfl⟩, ⟨rfl, rfl⟩, rfl⟩
set_option maxRecDepth 20000 in
theorem mi_hs_octet : q_mi m_hs_octet 1 := ⟨q_in 924 rfl rfl, q_in 1 (by decide +kernel) rfl, by decide +kernel, by decide +kernel, by decide +kernel, by decide⟩
set_option maxRecDepth 20000 in
theorem mv_hs_octet : q_mi m_hs_octet 1 ∧ q_mv m_hs_octet ∧ q_m0 m_hs_octet ∧ (q_cl[7]?).map (·.1) = some (q_y m_hs_octet).cls := ⟨mi_hs_octet, ⟨q_in 922 (by decide +kernel) rfl, q_in 923 (by decide +kernel) rfl⟩, ⟨rfl, rfl⟩, rfl⟩
set_option maxRecDepth 20000 in
theorem mi_hs_on : q_mi m_hs_on 0 := ⟨q_in 928 rfl rfl, q_in 1 (by decide +kernel) rfl, by decide +kernel, by decide +kernel, by decide +kernel, by decide⟩
set_option maxRecDepth 20000 in
theorem mv_hs_on : q_mi m_hs_on 0 ∧ q_mv m_hs_on ∧ q_m0 m_hs_on ∧ (q_cl[7]?).map (·.1) = some (q_y m_hs_on).cls := ⟨mi_hs_on, ⟨q_in 926 (by decide +kernel) rfl, q_in 927 (by decide +kernel) rfl⟩, ⟨rfl, rfl⟩, rfl⟩
set_option maxRecDepth 20000 in
theorem mi_hs_isImage : q_mi m_hs_isImage 0 := ⟨q_in 932 rfl rfl, q_in 1 (by decide +kernel) rfl, by decide +kernel, by decide +kernel, by decide +kernel, by decide⟩
set_option maxRecDepth 20000 in
theorem mv_hs_isImage : q_mi m_hs_isImage 0 ∧ q_mv m_hs_isImage ∧ q_m0 m_hs_isImage ∧ (q_cl[7]?).map (·.1) = some (q_y m_hs_isImage).cls := ⟨mi_hs_isImage, ⟨q_in 931 (by decide +kernel) rfl, q_is (List.mem_map.mpr ⟨_, List.mem_of_getElem? (l := lw_privs) (i := 51) rfl, rfl⟩) rfl⟩, ⟨rfl, rfl⟩, rfl⟩
set_option maxRecDepth 20000 in
theorem mi_hs_meetsAllTold : q_mi m_hs_meetsAllTold 2 := ⟨q_in 936 rfl rfl, q_in 1 (by decide +kernel) rfl, by decide +kernel, by decide +kernel, by decide +kernel, by decide⟩
set_option maxRecDepth 20000 in
theorem mv_hs_meetsAllTold : q_mi m_hs_meetsAllTold 2 ∧ q_mv m_hs_meetsAllTold ∧ q_m0 m_hs_meetsAllTold ∧ (q_cl[7]?).map (·.1) = some (q_y m_hs_meetsAllTold).cls := ⟨mi_hs_meetsAllTold, ⟨q_in 935 (by decide +kernel) rfl, q_is (List.mem_map.mpr ⟨_, List.mem_of_getElem? (l := lw_privs) (i := 52) rfl, rfl⟩) rfl⟩, ⟨rfl, rfl⟩, rfl⟩
set_option maxRecDepth 20000 in
theorem mi_hs_checkByte : q_mi m_hs_checkByte 2 := ⟨q_in 920 rfl rfl, q_in 1 (by decide +kernel) rfl, by decide +kernel, by decide +kernel, by decide +kernel, by decide⟩
theorem ms_hs_checkByte : q_mi m_hs_checkByte 2 ∧ Cond.static (q_y m_hs_checkByte) ∈ q_T ∧ q_m0 m_hs_checkByte := ⟨mi_hs_checkByte, q_in 919 (by decide +kernel) rfl, rfl, rfl⟩
set_option maxRecDepth 20000 in
theorem mi_hs_isSighting : q_mi m_hs_isSighting 1 := ⟨q_in 694 rfl rfl, q_in 1 (by decide +kernel) rfl, by decide +kernel, by decide +kernel, by decide +kernel, by decide⟩
set_option maxRecDepth 20000 in
theorem mv_hs_isSighting : q_mi m_hs_isSighting 1 ∧ q_mv m_hs_isSighting ∧ q_m0 m_hs_isSighting ∧ (q_cl[7]?).map (·.1) = some (q_y m_hs_isSighting).cls := ⟨mi_hs_isSighting, ⟨q_in 693 (by decide +kernel) rfl, q_is (List.mem_map.mpr ⟨_, List.mem_of_getElem? (l := lw_privs) (i := 32) rfl, rfl⟩) rfl⟩, ⟨rfl, rfl⟩, rfl⟩
set_option maxRecDepth 20000 in
theorem mi_hs_isShade : q_mi m_hs_isShade 1 := ⟨q_in 706 rfl rfl, q_in 1 (by decide +kernel) rfl, by decide +kernel, by decide +kernel, by decide +kernel, by decide⟩
set_option maxRecDepth 20000 in
theorem mv_hs_isShade : q_mi m_hs_isShade 1 ∧ q_mv m_hs_isShade ∧ q_m0 m_hs_isShade ∧ (q_cl[7]?).map (·.1) = some (q_y m_hs_isShade).cls := ⟨mi_hs_isShade, ⟨q_in 705 (by decide +kernel) rfl, q_is (List.mem_map.mpr ⟨_, List.mem_of_getElem? (l := lw_privs) (i := 33) rfl, rfl⟩) rfl⟩, ⟨rfl, rfl⟩, rfl⟩
set_option maxRecDepth 20000 in
theorem mi_hs_isPlaceAndHour : q_mi m_hs_isPlaceAndHour 2 := ⟨q_in 783 rfl rfl, q_in 1 (by decide +kernel) rfl, by decide +kernel, by decide +kernel, by decide +kernel, by decide⟩
set_option maxRecDepth 20000 in
theorem mv_hs_isPlaceAndHour : q_mi m_hs_isPlaceAndHour 2 ∧ q_mv m_hs_isPlaceAndHour ∧ q_m0 m_hs_isPlaceAndHour ∧ (q_cl[7]?).map (·.1) = some (q_y m_hs_isPlaceAndHour).cls := ⟨mi_hs_isPlaceAndHour, ⟨q_in 782 (by decide +kernel) rfl, q_is (List.mem_map.mpr ⟨_, List.mem_of_getElem? (l := lw_privs) (i := 39) rfl, rfl⟩) rfl⟩, ⟨rfl, rfl⟩, rfl⟩
set_option maxRecDepth 20000 in
theorem mi_hs_heldBy : q_mi m_hs_heldBy 1 := ⟨q_in 661 rfl rfl, q_in 1 (by decide +kernel) rfl, by decide +kernel, by decide +kernel, by decide +kernel, by decide⟩
set_option maxRecDepth 20000 in
theorem mv_hs_heldBy : q_mi m_hs_heldBy 1 ∧ q_mv m_hs_heldBy ∧ q_m0 m_hs_heldBy ∧ (q_cl[7]?).map (·.1) = some (q_y m_hs_heldBy).cls := ⟨mi_hs_heldBy, ⟨q_in 660 (by decide +kernel) rfl, q_is (List.mem_map.mpr ⟨_, List.mem_of_getElem? (l := lw_privs) (i := 31) rfl, rfl⟩) rfl⟩, ⟨rfl, rfl⟩, rfl⟩
set_option maxRecDepth 20000 in
theorem mi_hs_unhired : q_mi m_hs_unhired 0 := ⟨q_in 657 rfl rfl, q_in 1 (by decide +kernel) rfl, by decide +kernel, by decide +kernel, by decide +kernel, by decide⟩
set_option maxRecDepth 20000 in
theorem mv_hs_unhired : q_mi m_hs_unhired 0 ∧ q_mv m_hs_unhired ∧ q_m0 m_hs_unhired ∧ (q_cl[7]?).map (·.1) = some (q_y m_hs_unhired).cls := ⟨mi_hs_unhired, ⟨q_in 656 (by decide +kernel) rfl, q_is (List.mem_map.mpr ⟨_, List.mem_of_getElem? (l := lw_privs) (i := 30) rfl, rfl⟩) rfl⟩, ⟨rfl, rfl⟩, rfl⟩
set_option maxRecDepth 20000 in
theorem mi_hs_unhiredOf : q_mi m_hs_unhiredOf 1 := ⟨q_in 730 rfl rfl, q_in 1 (by decide +kernel) rfl, by decide +kernel, by decide +kernel, by decide +kernel, by decide⟩
set_option maxRecDepth 20000 in
theorem mv_hs_unhiredOf : q_mi m_hs_unhiredOf 1 ∧ q_mv m_hs_unhiredOf ∧ q_m0 m_hs_unhiredOf ∧ (q_cl[7]?).map (·.1) = some (q_y m_hs_unhiredOf).cls := ⟨mi_hs_unhiredOf, ⟨q_in 729 (by decide +kernel) rfl, q_is (List.mem_map.mpr ⟨_, List.mem_of_getElem? (l := lw_privs) (i := 36) rfl, rfl⟩) rfl⟩, ⟨rfl, rfl⟩, rfl⟩
set_option maxRecDepth 20000 in
theorem mi_hs_nthOf : q_mi m_hs_nthOf 2 := ⟨q_in 759 rfl rfl, q_in 1 (by decide +kernel) rfl, by decide +kernel, by decide +kernel, by decide +kernel, by decide⟩
theorem ms_hs_nthOf : q_mi m_hs_nthOf 2 ∧ Cond.static (q_y m_hs_nthOf) ∈ q_T ∧ q_m0 m_hs_nthOf := ⟨mi_hs_nthOf, q_in 758 (by decide +kernel) rfl, rfl, rfl⟩
set_option maxRecDepth 20000 in
theorem mi_mo_init : q_mi m_mo_init 0 := ⟨q_in 941 rfl rfl, q_in 9 (by decide +kernel) rfl, by decide +kernel, by decide +kernel, by decide +kernel, by decide⟩
theorem mv_mo_init : Cond.instanceMethod (q_y m_mo_init) ∈ q_T := q_in 940 (by decide +kernel) rfl
set_option maxRecDepth 20000 in
theorem mi_mo_isIn : q_mi m_mo_isIn 3 := ⟨q_in 1240 rfl rfl, q_in 9 (by decide +kernel) rfl, by decide +kernel, by decide +kernel, by decide +kernel, by decide⟩
theorem ms_mo_isIn : q_mi m_mo_isIn 3 ∧ Cond.static (q_y m_mo_isIn) ∈ q_T ∧ q_m0 m_mo_isIn := ⟨mi_mo_isIn, q_in 1239 (by decide +kernel) rfl, rfl, rfl⟩
set_option maxRecDepth 20000 in
theorem mi_mo_feed : q_mi m_mo_feed 5 := ⟨q_in 1177 rfl rfl, q_in 9 (by decide +kernel) rfl, by decide +kernel, by decide +kernel, by decide +kernel, by decide⟩
set_option maxRecDepth 20000 in
theorem mv_mo_feed : q_mi m_mo_feed 5 ∧ q_mv m_mo_feed ∧ q_m0 m_mo_feed ∧ (q_cl[8]?).map (·.1) = some (q_y m_mo_feed).cls := ⟨mi_mo_feed, ⟨q_in 1175 (by decide +kernel) rfl, q_in 1176 (by decide +kernel) rfl⟩, ⟨rfl, rfl⟩, rfl⟩
set_option maxRecDepth 20000 in
theorem mi_mo_end : q_mi m_mo_end 1 := ⟨q_in 1181 rfl rfl, q_in 9 (by decide +kernel) rfl, by decide +kernel, by decide +kernel, by decide +kernel, by decide⟩
set_option maxRecDepth 20000 in
theorem mv_mo_end : q_mi m_mo_end 1 ∧ q_mv m_mo_end ∧ q_m0 m_mo_end ∧ (q_cl[8]?).map (·.1) = some (q_y m_mo_end).cls := ⟨mi_mo_end, ⟨q_in 1179 (by decide +kernel) rfl, q_in 1180 (by decide +kernel) rfl⟩, ⟨rfl, rfl⟩, rfl⟩
set_option maxRecDepth 20000 in
theorem mi_mo_fail : q_mi m_mo_fail 2 := ⟨q_in 1212 rfl rfl, q_in 9 (by decide +kernel) rfl, by decide +kernel, by decide +kernel, by decide +kernel, by decide⟩
set_option maxRecDepth 20000 in
theorem mv_mo_fail : q_mi m_mo_fail 2 ∧ q_mv m_mo_fail ∧ q_m0 m_mo_fail ∧ (q_cl[8]?).map (·.1) = some (q_y m_mo_fail).cls := ⟨mi_mo_fail, ⟨q_in 1211 (by decide +kernel) rfl, q_is (List.mem_map.mpr ⟨_, List.mem_of_getElem? (l := lw_privs) (i := 58) rfl, rfl⟩) rfl⟩, ⟨rfl, rfl⟩, rfl⟩
set_option maxRecDepth 20000 in
theorem mi_mo_isLetter : q_mi m_mo_isLetter 1 := ⟨q_in 1208 rfl rfl, q_in 9 (by decide +kernel) rfl, by decide +kernel, by decide +kernel, by decide +kernel, by decide⟩
theorem ms_mo_isLetter : q_mi m_mo_isLetter 1 ∧ Cond.static (q_y m_mo_isLetter) ∈ q_T ∧ q_m0 m_mo_isLetter := ⟨mi_mo_isLetter, q_in 1207 (by decide +kernel) rfl, rfl, rfl⟩
set_option maxRecDepth 20000 in
theorem mi_mo_isDigit : q_mi m_mo_isDigit 1 := ⟨q_in 1237 rfl rfl, q_in 9 (by decide +kernel) rfl, by decide +kernel, by decide +kernel, by decide +kernel, by decide⟩
theorem ms_mo_isDigit : q_mi m_mo_isDigit 1 ∧ Cond.static (q_y m_mo_isDigit) ∈ q_T ∧ q_m0 m_mo_isDigit := ⟨mi_mo_isDigit, q_in 1236 (by decide +kernel) rfl, rfl, rfl⟩
set_option maxRecDepth 20000 in
theorem mi_mo_look : q_mi m_mo_look 0 := ⟨q_in 1205 rfl rfl, q_in 9 (by decide +kernel) rfl, by decide +kernel, by decide +kernel, by decide +kernel, by decide⟩
set_option maxRecDepth 20000 in
theorem mv_mo_look : q_mi m_mo_look 0 ∧ q_mv m_mo_look ∧ q_m0 m_mo_look ∧ (q_cl[8]?).map (·.1) = some (q_y m_mo_look).cls := ⟨mi_mo_look, ⟨q_in 1204 (by decide +kernel) rfl, q_is (List.mem_map.mpr ⟨_, List.mem_of_getElem? (l := lw_privs) (i := 57) rfl, rfl⟩) rfl⟩, ⟨rfl, rfl⟩, rfl⟩
set_option maxRecDepth 20000 in
theorem mi_mo_isHere : q_mi m_mo_isHere 1 := ⟨q_in 1201 rfl rfl, q_in 9 (by decide +kernel) rfl, by decide +kernel, by decide +kernel, by decide +kernel, by decide⟩
set_option maxRecDepth 20000 in
theorem mv_mo_isHere : q_mi m_mo_isHere 1 ∧ q_mv m_mo_isHere ∧ q_m0 m_mo_isHere ∧ (q_cl[8]?).map (·.1) = some (q_y m_mo_isHere).cls := ⟨mi_mo_isHere, ⟨q_in 1200 (by decide +kernel) rfl, q_is (List.mem_map.mpr ⟨_, List.mem_of_getElem? (l := lw_privs) (i := 56) rfl, rfl⟩) rfl⟩, ⟨rfl, rfl⟩, rfl⟩
set_option maxRecDepth 20000 in
theorem mi_mo_takes : q_mi m_mo_takes 1 := ⟨q_in 1197 rfl rfl, q_in 9 (by decide +kernel) rfl, by decide +kernel, by decide +kernel, by decide +kernel, by decide⟩
set_option maxRecDepth 20000 in
theorem mv_mo_takes : q_mi m_mo_takes 1 ∧ q_mv m_mo_takes ∧ q_m0 m_mo_takes ∧ (q_cl[8]?).map (·.1) = some (q_y m_mo_takes).cls := ⟨mi_mo_takes, ⟨q_in 1196 (by decide +kernel) rfl, q_is (List.mem_map.mpr ⟨_, List.mem_of_getElem? (l := lw_privs) (i := 55) rfl, rfl⟩) rfl⟩, ⟨rfl, rfl⟩, rfl⟩
set_option maxRecDepth 20000 in
theorem mi_mo_asks : q_mi m_mo_asks 1 := ⟨q_in 1193 rfl rfl, q_in 9 (by decide +kernel) rfl, by decide +kernel, by decide +kernel, by decide +kernel, by decide⟩
set_option maxRecDepth 20000 in
theorem mv_mo_asks : q_mi m_mo_asks 1 ∧ q_mv m_mo_asks ∧ q_m0 m_mo_asks ∧ (q_cl[8]?).map (·.1) = some (q_y m_mo_asks).cls := ⟨mi_mo_asks, ⟨q_in 1192 (by decide +kernel) rfl, q_is (List.mem_map.mpr ⟨_, List.mem_of_getElem? (l := lw_privs) (i := 54) rfl, rfl⟩) rfl⟩, ⟨rfl, rfl⟩, rfl⟩
set_option maxRecDepth 20000 in
theorem mi_mo_takesSign : q_mi m_mo_takesSign 1 := ⟨q_in 1244 rfl rfl, q_in 9 (by decide +kernel) rfl, by decide +kernel, by decide +kernel, by decide +kernel, by decide⟩
set_option maxRecDepth 20000 in
theorem mv_mo_takesSign : q_mi m_mo_takesSign 1 ∧ q_mv m_mo_takesSign ∧ q_m0 m_mo_takesSign ∧ (q_cl[8]?).map (·.1) = some (q_y m_mo_takesSign).cls := ⟨mi_mo_takesSign, ⟨q_in 1243 (by decide +kernel) rfl, q_is (List.mem_map.mpr ⟨_, List.mem_of_getElem? (l := lw_privs) (i := 64) rfl, rfl⟩) rfl⟩, ⟨rfl, rfl⟩, rfl⟩
set_option maxRecDepth 20000 in
theorem mi_mo_asksSign : q_mi m_mo_asksSign 1 := ⟨q_in 1248 rfl rfl, q_in 9 (by decide +kernel) rfl, by decide +kernel, by decide +kernel, by decide +kernel, by decide⟩
set_option maxRecDepth 20000 in
theorem mv_mo_asksSign : q_mi m_mo_asksSign 1 ∧ q_mv m_mo_asksSign ∧ q_m0 m_mo_asksSign ∧ (q_cl[8]?).map (·.1) = some (q_y m_mo_asksSign).cls := ⟨mi_mo_asksSign, ⟨q_in 1247 (by decide +kernel) rfl, q_is (List.mem_map.mpr ⟨_, List.mem_of_getElem? (l := lw_privs) (i := 65) rfl, rfl⟩) rfl⟩, ⟨rfl, rfl⟩, rfl⟩
set_option maxRecDepth 20000 in
theorem mi_mo_number : q_mi m_mo_number 2 := ⟨q_in 1234 rfl rfl, q_in 9 (by decide +kernel) rfl, by decide +kernel, by decide +kernel, by decide +kernel, by decide⟩
set_option maxRecDepth 20000 in
theorem mv_mo_number : q_mi m_mo_number 2 ∧ q_mv m_mo_number ∧ q_m0 m_mo_number ∧ (q_cl[8]?).map (·.1) = some (q_y m_mo_number).cls := ⟨mi_mo_number, ⟨q_in 1233 (by decide +kernel) rfl, q_is (List.mem_map.mpr ⟨_, List.mem_of_getElem? (l := lw_privs) (i := 63) rfl, rfl⟩) rfl⟩, ⟨rfl, rfl⟩, rfl⟩
set_option maxRecDepth 20000 in
theorem mi_mo_isOwnHere : q_mi m_mo_isOwnHere 0 := ⟨q_in 1224 rfl rfl, q_in 9 (by decide +kernel) rfl, by decide +kernel, by decide +kernel, by decide +kernel, by decide⟩
set_option maxRecDepth 20000 in
theorem mv_mo_isOwnHere : q_mi m_mo_isOwnHere 0 ∧ q_mv m_mo_isOwnHere ∧ q_m0 m_mo_isOwnHere ∧ (q_cl[8]?).map (·.1) = some (q_y m_mo_isOwnHere).cls := ⟨mi_mo_isOwnHere, ⟨q_in 1223 (by decide +kernel) rfl, q_is (List.mem_map.mpr ⟨_, List.mem_of_getElem? (l := lw_privs) (i := 61) rfl, rfl⟩) rfl⟩, ⟨rfl, rfl⟩, rfl⟩
set_option maxRecDepth 20000 in
theorem mi_mo_name : q_mi m_mo_name 0 := ⟨q_in 1220 rfl rfl, q_in 9 (by decide +kernel) rfl, by decide +kernel, by decide +kernel, by decide +kernel, by decide⟩
set_option maxRecDepth 20000 in
theorem mv_mo_name : q_mi m_mo_name 0 ∧ q_mv m_mo_name ∧ q_m0 m_mo_name ∧ (q_cl[8]?).map (·.1) = some (q_y m_mo_name).cls := ⟨mi_mo_name, ⟨q_in 1219 (by decide +kernel) rfl, q_is (List.mem_map.mpr ⟨_, List.mem_of_getElem? (l := lw_privs) (i := 60) rfl, rfl⟩) rfl⟩, ⟨rfl, rfl⟩, rfl⟩
set_option maxRecDepth 20000 in
theorem mi_mo_isFull : q_mi m_mo_isFull 3 := ⟨q_in 1260 rfl rfl, q_in 9 (by decide +kernel) rfl, by decide +kernel, by decide +kernel, by decide +kernel, by decide⟩
set_option maxRecDepth 20000 in
theorem mv_mo_isFull : q_mi m_mo_isFull 3 ∧ q_mv m_mo_isFull ∧ q_m0 m_mo_isFull ∧ (q_cl[8]?).map (·.1) = some (q_y m_mo_isFull).cls := ⟨mi_mo_isFull, ⟨q_in 1259 (by decide +kernel) rfl, q_is (List.mem_map.mpr ⟨_, List.mem_of_getElem? (l := lw_privs) (i := 68) rfl, rfl⟩) rfl⟩, ⟨rfl, rfl⟩, rfl⟩
set_option maxRecDepth 20000 in
theorem mi_mo_nameOf : q_mi m_mo_nameOf 2 := ⟨q_in 1230 rfl rfl, q_in 9 (by decide +kernel) rfl, by decide +kernel, by decide +kernel, by decide +kernel, by decide⟩
set_option maxRecDepth 20000 in
theorem mv_mo_nameOf : q_mi m_mo_nameOf 2 ∧ q_mv m_mo_nameOf ∧ q_m0 m_mo_nameOf ∧ (q_cl[8]?).map (·.1) = some (q_y m_mo_nameOf).cls := ⟨mi_mo_nameOf, ⟨q_in 1229 (by decide +kernel) rfl, q_is (List.mem_map.mpr ⟨_, List.mem_of_getElem? (l := lw_privs) (i := 62) rfl, rfl⟩) rfl⟩, ⟨rfl, rfl⟩, rfl⟩
set_option maxRecDepth 20000 in
theorem mi_mo_newName : q_mi m_mo_newName 1 := ⟨q_in 1216 rfl rfl, q_in 9 (by decide +kernel) rfl, by decide +kernel, by decide +kernel, by decide +kernel, by decide⟩
set_option maxRecDepth 20000 in
theorem mv_mo_newName : q_mi m_mo_newName 1 ∧ q_mv m_mo_newName ∧ q_m0 m_mo_newName ∧ (q_cl[8]?).map (·.1) = some (q_y m_mo_newName).cls := ⟨mi_mo_newName, ⟨q_in 1215 (by decide +kernel) rfl, q_is (List.mem_map.mpr ⟨_, List.mem_of_getElem? (l := lw_privs) (i := 59) rfl, rfl⟩) rfl⟩, ⟨rfl, rfl⟩, rfl⟩
set_option maxRecDepth 20000 in
theorem mi_mo_oneOf : q_mi m_mo_oneOf 1 := ⟨q_in 1276 rfl rfl, q_in 9 (by decide +kernel) rfl, by decide +kernel, by decide +kernel, by decide +kernel, by decide⟩
set_option maxRecDepth 20000 in
theorem mv_mo_oneOf : q_mi m_mo_oneOf 1 ∧ q_mv m_mo_oneOf ∧ q_m0 m_mo_oneOf ∧ (q_cl[8]?).map (·.1) = some (q_y m_mo_oneOf).cls := ⟨mi_mo_oneOf, ⟨q_in 1275 (by decide +kernel) rfl, q_is (List.mem_map.mpr ⟨_, List.mem_of_getElem? (l := lw_privs) (i := 72) rfl, rfl⟩) rfl⟩, ⟨rfl, rfl⟩, rfl⟩
set_option maxRecDepth 20000 in
theorem mi_mo_traitsTold : q_mi m_mo_traitsTold 0 := ⟨q_in 1189 rfl rfl, q_in 9 (by decide +kernel) rfl, by decide +kernel, by decide +kernel, by decide +kernel, by decide⟩
set_option maxRecDepth 20000 in
theorem mv_mo_traitsTold : q_mi m_mo_traitsTold 0 ∧ q_mv m_mo_traitsTold ∧ q_m0 m_mo_traitsTold ∧ (q_cl[8]?).map (·.1) = some (q_y m_mo_traitsTold).cls := ⟨mi_mo_traitsTold, ⟨q_in 1188 (by decide +kernel) rfl, q_is (List.mem_map.mpr ⟨_, List.mem_of_getElem? (l := lw_privs) (i := 53) rfl, rfl⟩) rfl⟩, ⟨rfl, rfl⟩, rfl⟩
set_option maxRecDepth 20000 in
theorem mi_mo_personTold : q_mi m_mo_personTold 1 := ⟨q_in 1256 rfl rfl, q_in 9 (by decide +kernel) rfl, by decide +kernel, by decide +kernel, by decide +kernel, by decide⟩
set_option maxRecDepth 20000 in
theorem mv_mo_personTold : q_mi m_mo_personTold 1 ∧ q_mv m_mo_personTold ∧ q_m0 m_mo_personTold ∧ (q_cl[8]?).map (·.1) = some (q_y m_mo_personTold).cls := ⟨mi_mo_personTold, ⟨q_in 1255 (by decide +kernel) rfl, q_is (List.mem_map.mpr ⟨_, List.mem_of_getElem? (l := lw_privs) (i := 67) rfl, rfl⟩) rfl⟩, ⟨rfl, rfl⟩, rfl⟩
set_option maxRecDepth 20000 in
theorem mi_mo_shadeTold : q_mi m_mo_shadeTold 1 := ⟨q_in 1264 rfl rfl, q_in 9 (by decide +kernel) rfl, by decide +kernel, by decide +kernel, by decide +kernel, by decide⟩
set_option maxRecDepth 20000 in
theorem mv_mo_shadeTold : q_mi m_mo_shadeTold 1 ∧ q_mv m_mo_shadeTold ∧ q_m0 m_mo_shadeTold ∧ (q_cl[8]?).map (·.1) = some (q_y m_mo_shadeTold).cls := ⟨mi_mo_shadeTold, ⟨q_in 1263 (by decide +kernel) rfl, q_is (List.mem_map.mpr ⟨_, List.mem_of_getElem? (l := lw_privs) (i := 69) rfl, rfl⟩) rfl⟩, ⟨rfl, rfl⟩, rfl⟩
set_option maxRecDepth 20000 in
theorem mi_mo_placeTold : q_mi m_mo_placeTold 1 := ⟨q_in 1268 rfl rfl, q_in 9 (by decide +kernel) rfl, by decide +kernel, by decide +kernel, by decide +kernel, by decide⟩
set_option maxRecDepth 20000 in
theorem mv_mo_placeTold : q_mi m_mo_placeTold 1 ∧ q_mv m_mo_placeTold ∧ q_m0 m_mo_placeTold ∧ (q_cl[8]?).map (·.1) = some (q_y m_mo_placeTold).cls := ⟨mi_mo_placeTold, ⟨q_in 1267 (by decide +kernel) rfl, q_is (List.mem_map.mpr ⟨_, List.mem_of_getElem? (l := lw_privs) (i := 70) rfl, rfl⟩) rfl⟩, ⟨rfl, rfl⟩, rfl⟩
set_option maxRecDepth 20000 in
theorem mi_mo_roadTold : q_mi m_mo_roadTold 1 := ⟨q_in 1272 rfl rfl, q_in 9 (by decide +kernel) rfl, by decide +kernel, by decide +kernel, by decide +kernel, by decide⟩
set_option maxRecDepth 20000 in
theorem mv_mo_roadTold : q_mi m_mo_roadTold 1 ∧ q_mv m_mo_roadTold ∧ q_m0 m_mo_roadTold ∧ (q_cl[8]?).map (·.1) = some (q_y m_mo_roadTold).cls := ⟨mi_mo_roadTold, ⟨q_in 1271 (by decide +kernel) rfl, q_is (List.mem_map.mpr ⟨_, List.mem_of_getElem? (l := lw_privs) (i := 71) rfl, rfl⟩) rfl⟩, ⟨rfl, rfl⟩, rfl⟩
set_option maxRecDepth 20000 in
theorem mi_mo_seenTold : q_mi m_mo_seenTold 1 := ⟨q_in 1280 rfl rfl, q_in 9 (by decide +kernel) rfl, by decide +kernel, by decide +kernel, by decide +kernel, by decide⟩
set_option maxRecDepth 20000 in
theorem mv_mo_seenTold : q_mi m_mo_seenTold 1 ∧ q_mv m_mo_seenTold ∧ q_m0 m_mo_seenTold ∧ (q_cl[8]?).map (·.1) = some (q_y m_mo_seenTold).cls := ⟨mi_mo_seenTold, ⟨q_in 1279 (by decide +kernel) rfl, q_is (List.mem_map.mpr ⟨_, List.mem_of_getElem? (l := lw_privs) (i := 73) rfl, rfl⟩) rfl⟩, ⟨rfl, rfl⟩, rfl⟩
set_option maxRecDepth 20000 in
theorem mi_mo_priceTold : q_mi m_mo_priceTold 1 := ⟨q_in 1284 rfl rfl, q_in 9 (by decide +kernel) rfl, by decide +kernel, by decide +kernel, by decide +kernel, by decide⟩
set_option maxRecDepth 20000 in
theorem mv_mo_priceTold : q_mi m_mo_priceTold 1 ∧ q_mv m_mo_priceTold ∧ q_m0 m_mo_priceTold ∧ (q_cl[8]?).map (·.1) = some (q_y m_mo_priceTold).cls := ⟨mi_mo_priceTold, ⟨q_in 1283 (by decide +kernel) rfl, q_is (List.mem_map.mpr ⟨_, List.mem_of_getElem? (l := lw_privs) (i := 74) rfl, rfl⟩) rfl⟩, ⟨rfl, rfl⟩, rfl⟩
set_option maxRecDepth 20000 in
theorem mi_mo_statementTold : q_mi m_mo_statementTold 0 := ⟨q_in 1252 rfl rfl, q_in 9 (by decide +kernel) rfl, by decide +kernel, by decide +kernel, by decide +kernel, by decide⟩
set_option maxRecDepth 20000 in
theorem mv_mo_statementTold : q_mi m_mo_statementTold 0 ∧ q_mv m_mo_statementTold ∧ q_m0 m_mo_statementTold ∧ (q_cl[8]?).map (·.1) = some (q_y m_mo_statementTold).cls := ⟨mi_mo_statementTold, ⟨q_in 1251 (by decide +kernel) rfl, q_is (List.mem_map.mpr ⟨_, List.mem_of_getElem? (l := lw_privs) (i := 66) rfl, rfl⟩) rfl⟩, ⟨rfl, rfl⟩, rfl⟩
set_option maxRecDepth 20000 in
theorem mi_mo_guild : q_mi m_mo_guild 0 := ⟨q_in 1185 rfl rfl, q_in 9 (by decide +kernel) rfl, by decide +kernel, by decide +kernel, by decide +kernel, by decide⟩
set_option maxRecDepth 20000 in
theorem mv_mo_guild : q_mi m_mo_guild 0 ∧ q_mv m_mo_guild ∧ q_m0 m_mo_guild ∧ (q_cl[8]?).map (·.1) = some (q_y m_mo_guild).cls := ⟨mi_mo_guild, ⟨q_in 1183 (by decide +kernel) rfl, q_in 1184 (by decide +kernel) rfl⟩, ⟨rfl, rfl⟩, rfl⟩
set_option maxRecDepth 20000 in
theorem mi_mo_stands : q_mi m_mo_stands 0 := ⟨q_in 1348 rfl rfl, q_in 9 (by decide +kernel) rfl, by decide +kernel, by decide +kernel, by decide +kernel, by decide⟩
set_option maxRecDepth 20000 in
theorem mv_mo_stands : q_mi m_mo_stands 0 ∧ q_mv m_mo_stands ∧ q_m0 m_mo_stands ∧ (q_cl[8]?).map (·.1) = some (q_y m_mo_stands).cls := ⟨mi_mo_stands, ⟨q_in 1347 (by decide +kernel) rfl, q_is (List.mem_map.mpr ⟨_, List.mem_of_getElem? (l := lw_privs) (i := 90) rfl, rfl⟩) rfl⟩, ⟨rfl, rfl⟩, rfl⟩
set_option maxRecDepth 20000 in
theorem mi_mo_code : q_mi m_mo_code 1 := ⟨q_in 1300 rfl rfl, q_in 9 (by decide +kernel) rfl, by decide +kernel, by decide +kernel, by decide +kernel, by decide⟩
set_option maxRecDepth 20000 in
theorem mv_mo_code : q_mi m_mo_code 1 ∧ q_mv m_mo_code ∧ q_m0 m_mo_code ∧ (q_cl[8]?).map (·.1) = some (q_y m_mo_code).cls := ⟨mi_mo_code, ⟨q_in 1299 (by decide +kernel) rfl, q_is (List.mem_map.mpr ⟨_, List.mem_of_getElem? (l := lw_privs) (i := 78) rfl, rfl⟩) rfl⟩, ⟨rfl, rfl⟩, rfl⟩
set_option maxRecDepth 20000 in
theorem mi_mo_opens : q_mi m_mo_opens 2 := ⟨q_in 1296 rfl rfl, q_in 9 (by decide +kernel) rfl, by decide +kernel, by decide +kernel, by decide +kernel, by decide⟩
set_option maxRecDepth 20000 in
theorem mv_mo_opens : q_mi m_mo_opens 2 ∧ q_mv m_mo_opens ∧ q_m0 m_mo_opens ∧ (q_cl[8]?).map (·.1) = some (q_y m_mo_opens).cls := ⟨mi_mo_opens, ⟨q_in 1295 (by decide +kernel) rfl, q_is (List.mem_map.mpr ⟨_, List.mem_of_getElem? (l := lw_privs) (i := 77) rfl, rfl⟩) rfl⟩, ⟨rfl, rfl⟩, rfl⟩
set_option maxRecDepth 20000 in
theorem mi_mo_isOn : q_mi m_mo_isOn 1 := ⟨q_in 1324 rfl rfl, q_in 9 (by decide +kernel) rfl, by decide +kernel, by decide +kernel, by decide +kernel, by decide⟩
set_option maxRecDepth 20000 in
theorem mv_mo_isOn : q_mi m_mo_isOn 1 ∧ q_mv m_mo_isOn ∧ q_m0 m_mo_isOn ∧ (q_cl[8]?).map (·.1) = some (q_y m_mo_isOn).cls := ⟨mi_mo_isOn, ⟨q_in 1323 (by decide +kernel) rfl, q_is (List.mem_map.mpr ⟨_, List.mem_of_getElem? (l := lw_privs) (i := 84) rfl, rfl⟩) rfl⟩, ⟨rfl, rfl⟩, rfl⟩
set_option maxRecDepth 20000 in
theorem mi_mo_drops : q_mi m_mo_drops 0 := ⟨q_in 1320 rfl rfl, q_in 9 (by decide +kernel) rfl, by decide +kernel, by decide +kernel, by decide +kernel, by decide⟩
set_option maxRecDepth 20000 in
theorem mv_mo_drops : q_mi m_mo_drops 0 ∧ q_mv m_mo_drops ∧ q_m0 m_mo_drops ∧ (q_cl[8]?).map (·.1) = some (q_y m_mo_drops).cls := ⟨mi_mo_drops, ⟨q_in 1319 (by decide +kernel) rfl, q_is (List.mem_map.mpr ⟨_, List.mem_of_getElem? (l := lw_privs) (i := 83) rfl, rfl⟩) rfl⟩, ⟨rfl, rfl⟩, rfl⟩
set_option maxRecDepth 20000 in
theorem mi_mo_isMark : q_mi m_mo_isMark 1 := ⟨q_in 1312 rfl rfl, q_in 9 (by decide +kernel) rfl, by decide +kernel, by decide +kernel, by decide +kernel, by decide⟩
set_option maxRecDepth 20000 in
theorem mv_mo_isMark : q_mi m_mo_isMark 1 ∧ q_mv m_mo_isMark ∧ q_m0 m_mo_isMark ∧ (q_cl[8]?).map (·.1) = some (q_y m_mo_isMark).cls := ⟨mi_mo_isMark, ⟨q_in 1311 (by decide +kernel) rfl, q_is (List.mem_map.mpr ⟨_, List.mem_of_getElem? (l := lw_privs) (i := 81) rfl, rfl⟩) rfl⟩, ⟨rfl, rfl⟩, rfl⟩
set_option maxRecDepth 20000 in
theorem mi_mo_mark : q_mi m_mo_mark 0 := ⟨q_in 1308 rfl rfl, q_in 9 (by decide +kernel) rfl, by decide +kernel, by decide +kernel, by decide +kernel, by decide⟩
set_option maxRecDepth 20000 in
theorem mv_mo_mark : q_mi m_mo_mark 0 ∧ q_mv m_mo_mark ∧ q_m0 m_mo_mark ∧ (q_cl[8]?).map (·.1) = some (q_y m_mo_mark).cls := ⟨mi_mo_mark, ⟨q_in 1307 (by decide +kernel) rfl, q_is (List.mem_map.mpr ⟨_, List.mem_of_getElem? (l := lw_privs) (i := 80) rfl, rfl⟩) rfl⟩, ⟨rfl, rfl⟩, rfl⟩
set_option maxRecDepth 20000 in
theorem mi_mo_dropsToMark : q_mi m_mo_dropsToMark 0 := ⟨q_in 1316 rfl rfl, q_in 9 (by decide +kernel) rfl, by decide +kernel, by decide +kernel, by decide +kernel, by decide⟩
set_option maxRecDepth 20000 in
theorem mv_mo_dropsToMark : q_mi m_mo_dropsToMark 0 ∧ q_mv m_mo_dropsToMark ∧ q_m0 m_mo_dropsToMark ∧ (q_cl[8]?).map (·.1) = some (q_y m_mo_dropsToMark).cls := ⟨mi_mo_dropsToMark, ⟨q_in 1315 (by decide +kernel) rfl, q_is (List.mem_map.mpr ⟨_, List.mem_of_getElem? (l := lw_privs) (i := 82) rfl, rfl⟩) rfl⟩, ⟨rfl, rfl⟩, rfl⟩
set_option maxRecDepth 20000 in
theorem mi_mo_onePart : q_mi m_mo_onePart 0 := ⟨q_in 1292 rfl rfl, q_in 9 (by decide +kernel) rfl, by decide +kernel, by decide +kernel, by decide +kernel, by decide⟩
set_option maxRecDepth 20000 in
theorem mv_mo_onePart : q_mi m_mo_onePart 0 ∧ q_mv m_mo_onePart ∧ q_m0 m_mo_onePart ∧ (q_cl[8]?).map (·.1) = some (q_y m_mo_onePart).cls := ⟨mi_mo_onePart, ⟨q_in 1291 (by decide +kernel) rfl, q_is (List.mem_map.mpr ⟨_, List.mem_of_getElem? (l := lw_privs) (i := 76) rfl, rfl⟩) rfl⟩, ⟨rfl, rfl⟩, rfl⟩
set_option maxRecDepth 20000 in
theorem mi_mo_goesOn : q_mi m_mo_goesOn 0 := ⟨q_in 1304 rfl rfl, q_in 9 (by decide +kernel) rfl, by decide +kernel, by decide +kernel, by decide +kernel, by decide⟩
set_option maxRecDepth 20000 in
theorem mv_mo_goesOn : q_mi m_mo_goesOn 0 ∧ q_mv m_mo_goesOn ∧ q_m0 m_mo_goesOn ∧ (q_cl[8]?).map (·.1) = some (q_y m_mo_goesOn).cls := ⟨mi_mo_goesOn, ⟨q_in 1303 (by decide +kernel) rfl, q_is (List.mem_map.mpr ⟨_, List.mem_of_getElem? (l := lw_privs) (i := 79) rfl, rfl⟩) rfl⟩, ⟨rfl, rfl⟩, rfl⟩
set_option maxRecDepth 20000 in
theorem mi_mo_sumsTold : q_mi m_mo_sumsTold 0 := ⟨q_in 1288 rfl rfl, q_in 9 (by decide +kernel) rfl, by decide +kernel, by decide +kernel, by decide +kernel, by decide⟩
set_option maxRecDepth 20000 in
theorem mv_mo_sumsTold : q_mi m_mo_sumsTold 0 ∧ q_mv m_mo_sumsTold ∧ q_m0 m_mo_sumsTold ∧ (q_cl[8]?).map (·.1) = some (q_y m_mo_sumsTold).cls := ⟨mi_mo_sumsTold, ⟨q_in 1287 (by decide +kernel) rfl, q_is (List.mem_map.mpr ⟨_, List.mem_of_getElem? (l := lw_privs) (i := 75) rfl, rfl⟩) rfl⟩, ⟨rfl, rfl⟩, rfl⟩
set_option maxRecDepth 20000 in
theorem mi_mo_fact : q_mi m_mo_fact 0 := ⟨q_in 1332 rfl rfl, q_in 9 (by decide +kernel) rfl, by decide +kernel, by decide +kernel, by decide +kernel, by decide⟩
set_option maxRecDepth 20000 in
theorem mv_mo_fact : q_mi m_mo_fact 0 ∧ q_mv m_mo_fact ∧ q_m0 m_mo_fact ∧ (q_cl[8]?).map (·.1) = some (q_y m_mo_fact).cls := ⟨mi_mo_fact, ⟨q_in 1331 (by decide +kernel) rfl, q_is (List.mem_map.mpr ⟨_, List.mem_of_getElem? (l := lw_privs) (i := 86) rfl, rfl⟩) rfl⟩, ⟨rfl, rfl⟩, rfl⟩
set_option maxRecDepth 20000 in
theorem mi_mo_hasSquare : q_mi m_mo_hasSquare 0 := ⟨q_in 1344 rfl rfl, q_in 9 (by decide +kernel) rfl, by decide +kernel, by decide +kernel, by decide +kernel, by decide⟩
set_option maxRecDepth 20000 in
theorem mv_mo_hasSquare : q_mi m_mo_hasSquare 0 ∧ q_mv m_mo_hasSquare ∧ q_m0 m_mo_hasSquare ∧ (q_cl[8]?).map (·.1) = some (q_y m_mo_hasSquare).cls := ⟨mi_mo_hasSquare, ⟨q_in 1343 (by decide +kernel) rfl, q_is (List.mem_map.mpr ⟨_, List.mem_of_getElem? (l := lw_privs) (i := 89) rfl, rfl⟩) rfl⟩, ⟨rfl, rfl⟩, rfl⟩
set_option maxRecDepth 20000 in
theorem mi_mo_dropsNots : q_mi m_mo_dropsNots 0 := ⟨q_in 1336 rfl rfl, q_in 9 (by decide +kernel) rfl, by decide +kernel, by decide +kernel, by decide +kernel, by decide⟩
set_option maxRecDepth 20000 in
theorem mv_mo_dropsNots : q_mi m_mo_dropsNots 0 ∧ q_mv m_mo_dropsNots ∧ q_m0 m_mo_dropsNots ∧ (q_cl[8]?).map (·.1) = some (q_y m_mo_dropsNots).cls := ⟨mi_mo_dropsNots, ⟨q_in 1335 (by decide +kernel) rfl, q_is (List.mem_map.mpr ⟨_, List.mem_of_getElem? (l := lw_privs) (i := 87) rfl, rfl⟩) rfl⟩, ⟨rfl, rfl⟩, rfl⟩
set_option maxRecDepth 20000 in
theorem mi_mo_test : q_mi m_mo_test 0 := ⟨q_in 1328 rfl rfl, q_in 9 (by decide +kernel) rfl, by decide +kernel, by decide +kernel, by decide +kernel, by decide⟩
set_option maxRecDepth 20000 in
theorem mv_mo_test : q_mi m_mo_test 0 ∧ q_mv m_mo_test ∧ q_m0 m_mo_test ∧ (q_cl[8]?).map (·.1) = some (q_y m_mo_test).cls := ⟨mi_mo_test, ⟨q_in 1327 (by decide +kernel) rfl, q_is (List.mem_map.mpr ⟨_, List.mem_of_getElem? (l := lw_privs) (i := 85) rfl, rfl⟩) rfl⟩, ⟨rfl, rfl⟩, rfl⟩
set_option maxRecDepth 20000 in
theorem mi_mo_goesOnTest : q_mi m_mo_goesOnTest 0 := ⟨q_in 1340 rfl rfl, q_in 9 (by decide +kernel) rfl, by decide +kernel, by decide +kernel, by decide +kernel, by decide⟩
set_option maxRecDepth 20000 in
theorem mv_mo_goesOnTest : q_mi m_mo_goesOnTest 0 ∧ q_mv m_mo_goesOnTest ∧ q_m0 m_mo_goesOnTest ∧ (q_cl[8]?).map (·.1) = some (q_y m_mo_goesOnTest).cls := ⟨mi_mo_goesOnTest, ⟨q_in 1339 (by decide +kernel) rfl, q_is (List.mem_map.mpr ⟨_, List.mem_of_getElem? (l := lw_privs) (i := 88) rfl, rfl⟩) rfl⟩, ⟨rfl, rfl⟩, rfl⟩
set_option maxRecDepth 20000 in
theorem mi_mo_fault : q_mi m_mo_fault 1 := ⟨q_in 1413 rfl rfl, q_in 9 (by decide +kernel) rfl, by decide +kernel, by decide +kernel, by decide +kernel, by decide⟩
set_option maxRecDepth 20000 in
theorem mv_mo_fault : q_mi m_mo_fault 1 ∧ q_mv m_mo_fault ∧ q_m0 m_mo_fault ∧ (q_cl[8]?).map (·.1) = some (q_y m_mo_fault).cls := ⟨mi_mo_fault, ⟨q_in 1411 (by decide +kernel) rfl, q_in 1412 (by decide +kernel) rfl⟩, ⟨rfl, rfl⟩, rfl⟩
set_option maxRecDepth 20000 in
theorem mi_mo_clip : q_mi m_mo_clip 1 := ⟨q_in 1403 rfl rfl, q_in 9 (by decide +kernel) rfl, by decide +kernel, by decide +kernel, by decide +kernel, by decide⟩
theorem ms_mo_clip : q_mi m_mo_clip 1 ∧ Cond.static (q_y m_mo_clip) ∈ q_T ∧ q_m0 m_mo_clip := ⟨mi_mo_clip, q_in 1402 (by decide +kernel) rfl, rfl, rfl⟩
set_option maxRecDepth 20000 in
theorem mi_mo_floor : q_mi m_mo_floor 2 := ⟨q_in 1408 rfl rfl, q_in 9 (by decide +kernel) rfl, by decide +kernel, by decide +kernel, by decide +kernel, by decide⟩
theorem ms_mo_floor : q_mi m_mo_floor 2 ∧ Cond.static (q_y m_mo_floor) ∈ q_T ∧ q_m0 m_mo_floor := ⟨mi_mo_floor, q_in 1407 (by decide +kernel) rfl, rfl, rfl⟩
set_option maxRecDepth 20000 in
theorem mi_mo_puts : q_mi m_mo_puts 1 := ⟨q_in 1388 rfl rfl, q_in 9 (by decide +kernel) rfl, by decide +kernel, by decide +kernel, by decide +kernel, by decide⟩
set_option maxRecDepth 20000 in
theorem mv_mo_puts : q_mi m_mo_puts 1 ∧ q_mv m_mo_puts ∧ q_m0 m_mo_puts ∧ (q_cl[8]?).map (·.1) = some (q_y m_mo_puts).cls := ⟨mi_mo_puts, ⟨q_in 1387 (by decide +kernel) rfl, q_is (List.mem_map.mpr ⟨_, List.mem_of_getElem? (l := lw_privs) (i := 100) rfl, rfl⟩) rfl⟩, ⟨rfl, rfl⟩, rfl⟩
set_option maxRecDepth 20000 in
theorem mi_mo_joins : q_mi m_mo_joins 1 := ⟨q_in 1400 rfl rfl, q_in 9 (by decide +kernel) rfl, by decide +kernel, by decide +kernel, by decide +kernel, by decide⟩
set_option maxRecDepth 20000 in
theorem mv_mo_joins : q_mi m_mo_joins 1 ∧ q_mv m_mo_joins ∧ q_m0 m_mo_joins ∧ (q_cl[8]?).map (·.1) = some (q_y m_mo_joins).cls := ⟨mi_mo_joins, ⟨q_in 1399 (by decide +kernel) rfl, q_is (List.mem_map.mpr ⟨_, List.mem_of_getElem? (l := lw_privs) (i := 102) rfl, rfl⟩) rfl⟩, ⟨rfl, rfl⟩, rfl⟩
set_option maxRecDepth 20000 in
theorem mi_mo_asked : q_mi m_mo_asked 1 := ⟨q_in 1396 rfl rfl, q_in 9 (by decide +kernel) rfl, by decide +kernel, by decide +kernel, by decide +kernel, by decide⟩
set_option maxRecDepth 20000 in
theorem mv_mo_asked : q_mi m_mo_asked 1 ∧ q_mv m_mo_asked ∧ q_m0 m_mo_asked ∧ (q_cl[8]?).map (·.1) = some (q_y m_mo_asked).cls := ⟨mi_mo_asked, ⟨q_in 1395 (by decide +kernel) rfl, q_is (List.mem_map.mpr ⟨_, List.mem_of_getElem? (l := lw_privs) (i := 101) rfl, rfl⟩) rfl⟩, ⟨rfl, rfl⟩, rfl⟩
set_option maxRecDepth 20000 in
theorem mi_mo_told : q_mi m_mo_told 2 := ⟨q_in 1384 rfl rfl, q_in 9 (by decide +kernel) rfl, by decide +kernel, by decide +kernel, by decide +kernel, by decide⟩
set_option maxRecDepth 20000 in
theorem mv_mo_told : q_mi m_mo_told 2 ∧ q_mv m_mo_told ∧ q_m0 m_mo_told ∧ (q_cl[8]?).map (·.1) = some (q_y m_mo_told).cls := ⟨mi_mo_told, ⟨q_in 1383 (by decide +kernel) rfl, q_is (List.mem_map.mpr ⟨_, List.mem_of_getElem? (l := lw_privs) (i := 99) rfl, rfl⟩) rfl⟩, ⟨rfl, rfl⟩, rfl⟩
set_option maxRecDepth 20000 in
theorem mi_mo_seenMany : q_mi m_mo_seenMany 0 := ⟨q_in 1352 rfl rfl, q_in 9 (by decide +kernel) rfl, by decide +kernel, by decide +kernel, by decide +kernel, by decide⟩
set_option maxRecDepth 20000 in
theorem mv_mo_seenMany : q_mi m_mo_seenMany 0 ∧ q_mv m_mo_seenMany ∧ q_m0 m_mo_seenMany ∧ (q_cl[8]?).map (·.1) = some (q_y m_mo_seenMany).cls := ⟨mi_mo_seenMany, ⟨q_in 1351 (by decide +kernel) rfl, q_is (List.mem_map.mpr ⟨_, List.mem_of_getElem? (l := lw_privs) (i := 91) rfl, rfl⟩) rfl⟩, ⟨rfl, rfl⟩, rfl⟩
set_option maxRecDepth 20000 in
theorem mi_mo_persons : q_mi m_mo_persons 0 := ⟨q_in 1421 rfl rfl, q_in 9 (by decide +kernel) rfl, by decide +kernel, by decide +kernel, by decide +kernel, by decide⟩
set_option maxRecDepth 20000 in
theorem mv_mo_persons : q_mi m_mo_persons 0 ∧ q_mv m_mo_persons ∧ q_m0 m_mo_persons ∧ (q_cl[8]?).map (·.1) = some (q_y m_mo_persons).cls := ⟨mi_mo_persons, ⟨q_in 1420 (by decide +kernel) rfl, q_is (List.mem_map.mpr ⟨_, List.mem_of_getElem? (l := lw_privs) (i := 103) rfl, rfl⟩) rfl⟩, ⟨rfl, rfl⟩, rfl⟩
set_option maxRecDepth 20000 in
theorem mi_mo_shadeMany : q_mi m_mo_shadeMany 0 := ⟨q_in 1372 rfl rfl, q_in 9 (by decide +kernel) rfl, by decide +kernel, by decide +kernel, by decide +kernel, by decide⟩
set_option maxRecDepth 20000 in
theorem mv_mo_shadeMany : q_mi m_mo_shadeMany 0 ∧ q_mv m_mo_shadeMany ∧ q_m0 m_mo_shadeMany ∧ (q_cl[8]?).map (·.1) = some (q_y m_mo_shadeMany).cls := ⟨mi_mo_shadeMany, ⟨q_in 1371 (by decide +kernel) rfl, q_is (List.mem_map.mpr ⟨_, List.mem_of_getElem? (l := lw_privs) (i := 96) rfl, rfl⟩) rfl⟩, ⟨rfl, rfl⟩, rfl⟩
set_option maxRecDepth 20000 in
theorem mi_mo_personOf : q_mi m_mo_personOf 1 := ⟨q_in 1376 rfl rfl, q_in 9 (by decide +kernel) rfl, by decide +kernel, by decide +kernel, by decide +kernel, by decide⟩
set_option maxRecDepth 20000 in
theorem mv_mo_personOf : q_mi m_mo_personOf 1 ∧ q_mv m_mo_personOf ∧ q_m0 m_mo_personOf ∧ (q_cl[8]?).map (·.1) = some (q_y m_mo_personOf).cls := ⟨mi_mo_personOf, ⟨q_in 1375 (by decide +kernel) rfl, q_is (List.mem_map.mpr ⟨_, List.mem_of_getElem? (l := lw_privs) (i := 97) rfl, rfl⟩) rfl⟩, ⟨rfl, rfl⟩, rfl⟩
set_option maxRecDepth 20000 in
theorem mi_mo_placeOf : q_mi m_mo_placeOf 1 := ⟨q_in 1356 rfl rfl, q_in 9 (by decide +kernel) rfl, by decide +kernel, by decide +kernel, by decide +kernel, by decide⟩
set_option maxRecDepth 20000 in
theorem mv_mo_placeOf : q_mi m_mo_placeOf 1 ∧ q_mv m_mo_placeOf ∧ q_m0 m_mo_placeOf ∧ (q_cl[8]?).map (·.1) = some (q_y m_mo_placeOf).cls := ⟨mi_mo_placeOf, ⟨q_in 1355 (by decide +kernel) rfl, q_is (List.mem_map.mpr ⟨_, List.mem_of_getElem? (l := lw_privs) (i := 92) rfl, rfl⟩) rfl⟩, ⟨rfl, rfl⟩, rfl⟩
set_option maxRecDepth 20000 in
theorem mi_mo_hourOf : q_mi m_mo_hourOf 1 := ⟨q_in 1360 rfl rfl, q_in 9 (by decide +kernel) rfl, by decide +kernel, by decide +kernel, by decide +kernel, by decide⟩
set_option maxRecDepth 20000 in
theorem mv_mo_hourOf : q_mi m_mo_hourOf 1 ∧ q_mv m_mo_hourOf ∧ q_m0 m_mo_hourOf ∧ (q_cl[8]?).map (·.1) = some (q_y m_mo_hourOf).cls := ⟨mi_mo_hourOf, ⟨q_in 1359 (by decide +kernel) rfl, q_is (List.mem_map.mpr ⟨_, List.mem_of_getElem? (l := lw_privs) (i := 93) rfl, rfl⟩) rfl⟩, ⟨rfl, rfl⟩, rfl⟩
set_option maxRecDepth 20000 in
theorem mi_mo_areFarEnough : q_mi m_mo_areFarEnough 4 := ⟨q_in 1364 rfl rfl, q_in 9 (by decide +kernel) rfl, by decide +kernel, by decide +kernel, by decide +kernel, by decide⟩
set_option maxRecDepth 20000 in
theorem mv_mo_areFarEnough : q_mi m_mo_areFarEnough 4 ∧ q_mv m_mo_areFarEnough ∧ q_m0 m_mo_areFarEnough ∧ (q_cl[8]?).map (·.1) = some (q_y m_mo_areFarEnough).cls := ⟨mi_mo_areFarEnough, ⟨q_in 1363 (by decide +kernel) rfl, q_is (List.mem_map.mpr ⟨_, List.mem_of_getElem? (l := lw_privs) (i := 94) rfl, rfl⟩) rfl⟩, ⟨rfl, rfl⟩, rfl⟩
set_option maxRecDepth 20000 in
theorem mi_mo_isSeen : q_mi m_mo_isSeen 1 := ⟨q_in 1454 rfl rfl, q_in 9 (by decide +kernel) rfl, by decide +kernel, by decide +kernel, by decide +kernel, by decide⟩
set_option maxRecDepth 20000 in
theorem mv_mo_isSeen : q_mi m_mo_isSeen 1 ∧ q_mv m_mo_isSeen ∧ q_m0 m_mo_isSeen ∧ (q_cl[8]?).map (·.1) = some (q_y m_mo_isSeen).cls := ⟨mi_mo_isSeen, ⟨q_in 1453 (by decide +kernel) rfl, q_is (List.mem_map.mpr ⟨_, List.mem_of_getElem? (l := lw_privs) (i := 107) rfl, rfl⟩) rfl⟩, ⟨rfl, rfl⟩, rfl⟩
set_option maxRecDepth 20000 in
theorem mi_mo_isShade : q_mi m_mo_isShade 1 := ⟨q_in 1446 rfl rfl, q_in 9 (by decide +kernel) rfl, by decide +kernel, by decide +kernel, by decide +kernel, by decide⟩
set_option maxRecDepth 20000 in
theorem mv_mo_isShade : q_mi m_mo_isShade 1 ∧ q_mv m_mo_isShade ∧ q_m0 m_mo_isShade ∧ (q_cl[8]?).map (·.1) = some (q_y m_mo_isShade).cls := ⟨mi_mo_isShade, ⟨q_in 1445 (by decide +kernel) rfl, q_is (List.mem_map.mpr ⟨_, List.mem_of_getElem? (l := lw_privs) (i := 106) rfl, rfl⟩) rfl⟩, ⟨rfl, rfl⟩, rfl⟩
set_option maxRecDepth 20000 in
theorem mi_mo_isPerson : q_mi m_mo_isPerson 1 := ⟨q_in 1442 rfl rfl, q_in 9 (by decide +kernel) rfl, by decide +kernel, by decide +kernel, by decide +kernel, by decide⟩
set_option maxRecDepth 20000 in
theorem mv_mo_isPerson : q_mi m_mo_isPerson 1 ∧ q_mv m_mo_isPerson ∧ q_m0 m_mo_isPerson ∧ (q_cl[8]?).map (·.1) = some (q_y m_mo_isPerson).cls := ⟨mi_mo_isPerson, ⟨q_in 1441 (by decide +kernel) rfl, q_is (List.mem_map.mpr ⟨_, List.mem_of_getElem? (l := lw_privs) (i := 105) rfl, rfl⟩) rfl⟩, ⟨rfl, rfl⟩, rfl⟩
set_option maxRecDepth 20000 in
theorem mi_mo_passes : q_mi m_mo_passes 0 := ⟨q_in 1368 rfl rfl, q_in 9 (by decide +kernel) rfl, by decide +kernel, by decide +kernel, by decide +kernel, by decide⟩
set_option maxRecDepth 20000 in
theorem mv_mo_passes : q_mi m_mo_passes 0 ∧ q_mv m_mo_passes ∧ q_m0 m_mo_passes ∧ (q_cl[8]?).map (·.1) = some (q_y m_mo_passes).cls := ⟨mi_mo_passes, ⟨q_in 1367 (by decide +kernel) rfl, q_is (List.mem_map.mpr ⟨_, List.mem_of_getElem? (l := lw_privs) (i := 95) rfl, rfl⟩) rfl⟩, ⟨rfl, rfl⟩, rfl⟩
set_option maxRecDepth 20000 in
theorem mi_mo_priceNow : q_mi m_mo_priceNow 1 := ⟨q_in 1380 rfl rfl, q_in 9 (by decide +kernel) rfl, by decide +kernel, by decide +kernel, by decide +kernel, by decide⟩
set_option maxRecDepth 20000 in
theorem mv_mo_priceNow : q_mi m_mo_priceNow 1 ∧ q_mv m_mo_priceNow ∧ q_m0 m_mo_priceNow ∧ (q_cl[8]?).map (·.1) = some (q_y m_mo_priceNow).cls := ⟨mi_mo_priceNow, ⟨q_in 1379 (by decide +kernel) rfl, q_is (List.mem_map.mpr ⟨_, List.mem_of_getElem? (l := lw_privs) (i := 98) rfl, rfl⟩) rfl⟩, ⟨rfl, rfl⟩, rfl⟩
set_option maxRecDepth 20000 in
theorem mi_mo_keepsHires : q_mi m_mo_keepsHires 0 := ⟨q_in 1566 rfl rfl, q_in 9 (by decide +kernel) rfl, by decide +kernel, by decide +kernel, by decide +kernel, by decide⟩
set_option maxRecDepth 20000 in
theorem mv_mo_keepsHires : q_mi m_mo_keepsHires 0 ∧ q_mv m_mo_keepsHires ∧ q_m0 m_mo_keepsHires ∧ (q_cl[8]?).map (·.1) = some (q_y m_mo_keepsHires).cls := ⟨mi_mo_keepsHires, ⟨q_in 1565 (by decide +kernel) rfl, q_is (List.mem_map.mpr ⟨_, List.mem_of_getElem? (l := lw_privs) (i := 121) rfl, rfl⟩) rfl⟩, ⟨rfl, rfl⟩, rfl⟩
set_option maxRecDepth 20000 in
theorem mi_mo_hiredBy : q_mi m_mo_hiredBy 1 := ⟨q_in 1425 rfl rfl, q_in 9 (by decide +kernel) rfl, by decide +kernel, by decide +kernel, by decide +kernel, by decide⟩
set_option maxRecDepth 20000 in
theorem mv_mo_hiredBy : q_mi m_mo_hiredBy 1 ∧ q_mv m_mo_hiredBy ∧ q_m0 m_mo_hiredBy ∧ (q_cl[8]?).map (·.1) = some (q_y m_mo_hiredBy).cls := ⟨mi_mo_hiredBy, ⟨q_in 1424 (by decide +kernel) rfl, q_is (List.mem_map.mpr ⟨_, List.mem_of_getElem? (l := lw_privs) (i := 104) rfl, rfl⟩) rfl⟩, ⟨rfl, rfl⟩, rfl⟩
set_option maxRecDepth 20000 in
theorem mi_mo_ownOf : q_mi m_mo_ownOf 1 := ⟨q_in 1486 rfl rfl, q_in 9 (by decide +kernel) rfl, by decide +kernel, by decide +kernel, by decide +kernel, by decide⟩
set_option maxRecDepth 20000 in
theorem mv_mo_ownOf : q_mi m_mo_ownOf 1 ∧ q_mv m_mo_ownOf ∧ q_m0 m_mo_ownOf ∧ (q_cl[8]?).map (·.1) = some (q_y m_mo_ownOf).cls := ⟨mi_mo_ownOf, ⟨q_in 1485 (by decide +kernel) rfl, q_is (List.mem_map.mpr ⟨_, List.mem_of_getElem? (l := lw_privs) (i := 110) rfl, rfl⟩) rfl⟩, ⟨rfl, rfl⟩, rfl⟩
set_option maxRecDepth 20000 in
theorem mi_mo_canBeAll : q_mi m_mo_canBeAll 1 := ⟨q_in 1490 rfl rfl, q_in 9 (by decide +kernel) rfl, by decide +kernel, by decide +kernel, by decide +kernel, by decide⟩
set_option maxRecDepth 20000 in
theorem mv_mo_canBeAll : q_mi m_mo_canBeAll 1 ∧ q_mv m_mo_canBeAll ∧ q_m0 m_mo_canBeAll ∧ (q_cl[8]?).map (·.1) = some (q_y m_mo_canBeAll).cls := ⟨mi_mo_canBeAll, ⟨q_in 1489 (by decide +kernel) rfl, q_is (List.mem_map.mpr ⟨_, List.mem_of_getElem? (l := lw_privs) (i := 111) rfl, rfl⟩) rfl⟩, ⟨rfl, rfl⟩, rfl⟩
set_option maxRecDepth 20000 in
theorem mi_mo_bits : q_mi m_mo_bits 1 := ⟨q_in 1428 rfl rfl, q_in 9 (by decide +kernel) rfl, by decide +kernel, by decide +kernel, by decide +kernel, by decide⟩
theorem ms_mo_bits : q_mi m_mo_bits 1 ∧ Cond.static (q_y m_mo_bits) ∈ q_T ∧ q_m0 m_mo_bits := ⟨mi_mo_bits, q_in 1427 (by decide +kernel) rfl, rfl, rfl⟩
set_option maxRecDepth 20000 in
theorem mi_mo_has : q_mi m_mo_has 1 := ⟨q_in 1417 rfl rfl, q_in 9 (by decide +kernel) rfl, by decide +kernel, by decide +kernel, by decide +kernel, by decide⟩
set_option maxRecDepth 20000 in
theorem mv_mo_has : q_mi m_mo_has 1 ∧ q_mv m_mo_has ∧ q_m0 m_mo_has ∧ (q_cl[8]?).map (·.1) = some (q_y m_mo_has).cls := ⟨mi_mo_has, ⟨q_in 1415 (by decide +kernel) rfl, q_in 1416 (by decide +kernel) rfl⟩, ⟨rfl, rfl⟩, rfl⟩
set_option maxRecDepth 20000 in
theorem mi_mo_letter : q_mi m_mo_letter 3 := ⟨q_in 1432 rfl rfl, q_in 9 (by decide +kernel) rfl, by decide +kernel, by decide +kernel, by decide +kernel, by decide⟩
set_option maxRecDepth 20000 in
theorem mv_mo_letter : q_mi m_mo_letter 3 ∧ q_mv m_mo_letter ∧ q_m0 m_mo_letter ∧ (q_cl[8]?).map (·.1) = some (q_y m_mo_letter).cls := ⟨mi_mo_letter, ⟨q_in 1430 (by decide +kernel) rfl, q_in 1431 (by decide +kernel) rfl⟩, ⟨rfl, rfl⟩, rfl⟩
set_option maxRecDepth 20000 in
theorem mi_mo_trait : q_mi m_mo_trait 3 := ⟨q_in 1438 rfl rfl, q_in 9 (by decide +kernel) rfl, by decide +kernel, by decide +kernel, by decide +kernel, by decide⟩
set_option maxRecDepth 20000 in
theorem mv_mo_trait : q_mi m_mo_trait 3 ∧ q_mv m_mo_trait ∧ q_m0 m_mo_trait ∧ (q_cl[8]?).map (·.1) = some (q_y m_mo_trait).cls := ⟨mi_mo_trait, ⟨q_in 1436 (by decide +kernel) rfl, q_in 1437 (by decide +kernel) rfl⟩, ⟨rfl, rfl⟩, rfl⟩
set_option maxRecDepth 20000 in
theorem mi_mo_seen : q_mi m_mo_seen 2 := ⟨q_in 1450 rfl rfl, q_in 9 (by decide +kernel) rfl, by decide +kernel, by decide +kernel, by decide +kernel, by decide⟩
set_option maxRecDepth 20000 in
theorem mv_mo_seen : q_mi m_mo_seen 2 ∧ q_mv m_mo_seen ∧ q_m0 m_mo_seen ∧ (q_cl[8]?).map (·.1) = some (q_y m_mo_seen).cls := ⟨mi_mo_seen, ⟨q_in 1448 (by decide +kernel) rfl, q_in 1449 (by decide +kernel) rfl⟩, ⟨rfl, rfl⟩, rfl⟩
set_option maxRecDepth 20000 in
theorem mi_mo_isPlaceHere : q_mi m_mo_isPlaceHere 1 := ⟨q_in 1462 rfl rfl, q_in 9 (by decide +kernel) rfl, by decide +kernel, by decide +kernel, by decide +kernel, by decide⟩
set_option maxRecDepth 20000 in
theorem mv_mo_isPlaceHere : q_mi m_mo_isPlaceHere 1 ∧ q_mv m_mo_isPlaceHere ∧ q_m0 m_mo_isPlaceHere ∧ (q_cl[8]?).map (·.1) = some (q_y m_mo_isPlaceHere).cls := ⟨mi_mo_isPlaceHere, ⟨q_in 1461 (by decide +kernel) rfl, q_is (List.mem_map.mpr ⟨_, List.mem_of_getElem? (l := lw_privs) (i := 108) rfl, rfl⟩) rfl⟩, ⟨rfl, rfl⟩, rfl⟩
set_option maxRecDepth 20000 in
theorem mi_mo_far : q_mi m_mo_far 2 := ⟨q_in 1458 rfl rfl, q_in 9 (by decide +kernel) rfl, by decide +kernel, by decide +kernel, by decide +kernel, by decide⟩
set_option maxRecDepth 20000 in
theorem mv_mo_far : q_mi m_mo_far 2 ∧ q_mv m_mo_far ∧ q_m0 m_mo_far ∧ (q_cl[8]?).map (·.1) = some (q_y m_mo_far).cls := ⟨mi_mo_far, ⟨q_in 1456 (by decide +kernel) rfl, q_in 1457 (by decide +kernel) rfl⟩, ⟨rfl, rfl⟩, rfl⟩
set_option maxRecDepth 20000 in
theorem mi_mo_pass : q_mi m_mo_pass 2 := ⟨q_in 1466 rfl rfl, q_in 9 (by decide +kernel) rfl, by decide +kernel, by decide +kernel, by decide +kernel, by decide⟩
set_option maxRecDepth 20000 in
theorem mv_mo_pass : q_mi m_mo_pass 2 ∧ q_mv m_mo_pass ∧ q_m0 m_mo_pass ∧ (q_cl[8]?).map (·.1) = some (q_y m_mo_pass).cls := ⟨mi_mo_pass, ⟨q_in 1464 (by decide +kernel) rfl, q_in 1465 (by decide +kernel) rfl⟩, ⟨rfl, rfl⟩, rfl⟩
set_option maxRecDepth 20000 in
theorem mi_mo_price : q_mi m_mo_price 2 := ⟨q_in 1470 rfl rfl, q_in 9 (by decide +kernel) rfl, by decide +kernel, by decide +kernel, by decide +kernel, by decide⟩
set_option maxRecDepth 20000 in
theorem mv_mo_price : q_mi m_mo_price 2 ∧ q_mv m_mo_price ∧ q_m0 m_mo_price ∧ (q_cl[8]?).map (·.1) = some (q_y m_mo_price).cls := ⟨mi_mo_price, ⟨q_in 1468 (by decide +kernel) rfl, q_in 1469 (by decide +kernel) rfl⟩, ⟨rfl, rfl⟩, rfl⟩
set_option maxRecDepth 20000 in
theorem mi_mo_best : q_mi m_mo_best 3 := ⟨q_in 1474 rfl rfl, q_in 9 (by decide +kernel) rfl, by decide +kernel, by decide +kernel, by decide +kernel, by decide⟩
set_option maxRecDepth 20000 in
theorem mv_mo_best : q_mi m_mo_best 3 ∧ q_mv m_mo_best ∧ q_m0 m_mo_best ∧ (q_cl[8]?).map (·.1) = some (q_y m_mo_best).cls := ⟨mi_mo_best, ⟨q_in 1472 (by decide +kernel) rfl, q_in 1473 (by decide +kernel) rfl⟩, ⟨rfl, rfl⟩, rfl⟩
set_option maxRecDepth 20000 in
theorem mi_mo_weightOf : q_mi m_mo_weightOf 2 := ⟨q_in 1482 rfl rfl, q_in 9 (by decide +kernel) rfl, by decide +kernel, by decide +kernel, by decide +kernel, by decide⟩
set_option maxRecDepth 20000 in
theorem mv_mo_weightOf : q_mi m_mo_weightOf 2 ∧ q_mv m_mo_weightOf ∧ q_m0 m_mo_weightOf ∧ (q_cl[8]?).map (·.1) = some (q_y m_mo_weightOf).cls := ⟨mi_mo_weightOf, ⟨q_in 1481 (by decide +kernel) rfl, q_is (List.mem_map.mpr ⟨_, List.mem_of_getElem? (l := lw_privs) (i := 109) rfl, rfl⟩) rfl⟩, ⟨rfl, rfl⟩, rfl⟩
set_option maxRecDepth 20000 in
theorem mi_mo_whose : q_mi m_mo_whose 2 := ⟨q_in 1478 rfl rfl, q_in 9 (by decide +kernel) rfl, by decide +kernel, by decide +kernel, by decide +kernel, by decide⟩
set_option maxRecDepth 20000 in
theorem mv_mo_whose : q_mi m_mo_whose 2 ∧ q_mv m_mo_whose ∧ q_m0 m_mo_whose ∧ (q_cl[8]?).map (·.1) = some (q_y m_mo_whose).cls := ⟨mi_mo_whose, ⟨q_in 1476 (by decide +kernel) rfl, q_in 1477 (by decide +kernel) rfl⟩, ⟨rfl, rfl⟩, rfl⟩
set_option maxRecDepth 20000 in
theorem mi_mo_orders : q_mi m_mo_orders 0 := ⟨q_in 1502 rfl rfl, q_in 9 (by decide +kernel) rfl, by decide +kernel, by decide +kernel, by decide +kernel, by decide⟩
set_option maxRecDepth 20000 in
theorem mv_mo_orders : q_mi m_mo_orders 0 ∧ q_mv m_mo_orders ∧ q_m0 m_mo_orders ∧ (q_cl[8]?).map (·.1) = some (q_y m_mo_orders).cls := ⟨mi_mo_orders, ⟨q_in 1501 (by decide +kernel) rfl, q_is (List.mem_map.mpr ⟨_, List.mem_of_getElem? (l := lw_privs) (i := 113) rfl, rfl⟩) rfl⟩, ⟨rfl, rfl⟩, rfl⟩
set_option maxRecDepth 20000 in
theorem mi_mo_longestOf : q_mi m_mo_longestOf 1 := ⟨q_in 1506 rfl rfl, q_in 9 (by decide +kernel) rfl, by decide +kernel, by decide +kernel, by decide +kernel, by decide⟩
set_option maxRecDepth 20000 in
theorem mv_mo_longestOf : q_mi m_mo_longestOf 1 ∧ q_mv m_mo_longestOf ∧ q_m0 m_mo_longestOf ∧ (q_cl[8]?).map (·.1) = some (q_y m_mo_longestOf).cls := ⟨mi_mo_longestOf, ⟨q_in 1505 (by decide +kernel) rfl, q_is (List.mem_map.mpr ⟨_, List.mem_of_getElem? (l := lw_privs) (i := 114) rfl, rfl⟩) rfl⟩, ⟨rfl, rfl⟩, rfl⟩
set_option maxRecDepth 20000 in
theorem mi_mo_chainOf : q_mi m_mo_chainOf 1 := ⟨q_in 1498 rfl rfl, q_in 9 (by decide +kernel) rfl, by decide +kernel, by decide +kernel, by decide +kernel, by decide⟩
set_option maxRecDepth 20000 in
theorem mv_mo_chainOf : q_mi m_mo_chainOf 1 ∧ q_mv m_mo_chainOf ∧ q_m0 m_mo_chainOf ∧ (q_cl[8]?).map (·.1) = some (q_y m_mo_chainOf).cls := ⟨mi_mo_chainOf, ⟨q_in 1497 (by decide +kernel) rfl, q_is (List.mem_map.mpr ⟨_, List.mem_of_getElem? (l := lw_privs) (i := 112) rfl, rfl⟩) rfl⟩, ⟨rfl, rfl⟩, rfl⟩
set_option maxRecDepth 20000 in
theorem mi_mo_bitAt : q_mi m_mo_bitAt 2 := ⟨q_in 1509 rfl rfl, q_in 9 (by decide +kernel) rfl, by decide +kernel, by decide +kernel, by decide +kernel, by decide⟩
theorem ms_mo_bitAt : q_mi m_mo_bitAt 2 ∧ Cond.static (q_y m_mo_bitAt) ∈ q_T ∧ q_m0 m_mo_bitAt := ⟨mi_mo_bitAt, q_in 1508 (by decide +kernel) rfl, rfl, rfl⟩
set_option maxRecDepth 20000 in
theorem mi_mo_chain : q_mi m_mo_chain 2 := ⟨q_in 1494 rfl rfl, q_in 9 (by decide +kernel) rfl, by decide +kernel, by decide +kernel, by decide +kernel, by decide⟩
set_option maxRecDepth 20000 in
theorem mv_mo_chain : q_mi m_mo_chain 2 ∧ q_mv m_mo_chain ∧ q_m0 m_mo_chain ∧ (q_cl[8]?).map (·.1) = some (q_y m_mo_chain).cls := ⟨mi_mo_chain, ⟨q_in 1492 (by decide +kernel) rfl, q_in 1493 (by decide +kernel) rfl⟩, ⟨rfl, rfl⟩, rfl⟩
set_option maxRecDepth 20000 in
theorem mi_mo_fewestOf : q_mi m_mo_fewestOf 1 := ⟨q_in 1517 rfl rfl, q_in 9 (by decide +kernel) rfl, by decide +kernel, by decide +kernel, by decide +kernel, by decide⟩
set_option maxRecDepth 20000 in
theorem mv_mo_fewestOf : q_mi m_mo_fewestOf 1 ∧ q_mv m_mo_fewestOf ∧ q_m0 m_mo_fewestOf ∧ (q_cl[8]?).map (·.1) = some (q_y m_mo_fewestOf).cls := ⟨mi_mo_fewestOf, ⟨q_in 1516 (by decide +kernel) rfl, q_is (List.mem_map.mpr ⟨_, List.mem_of_getElem? (l := lw_privs) (i := 115) rfl, rfl⟩) rfl⟩, ⟨rfl, rfl⟩, rfl⟩
set_option maxRecDepth 20000 in
theorem mi_mo_shades : q_mi m_mo_shades 1 := ⟨q_in 1513 rfl rfl, q_in 9 (by decide +kernel) rfl, by decide +kernel, by decide +kernel, by decide +kernel, by decide⟩
set_option maxRecDepth 20000 in
theorem mv_mo_shades : q_mi m_mo_shades 1 ∧ q_mv m_mo_shades ∧ q_m0 m_mo_shades ∧ (q_cl[8]?).map (·.1) = some (q_y m_mo_shades).cls := ⟨mi_mo_shades, ⟨q_in 1511 (by decide +kernel) rfl, q_in 1512 (by decide +kernel) rfl⟩, ⟨rfl, rfl⟩, rfl⟩
set_option maxRecDepth 20000 in
theorem mi_mo_must : q_mi m_mo_must 1 := ⟨q_in 1521 rfl rfl, q_in 9 (by decide +kernel) rfl, by decide +kernel, by decide +kernel, by decide +kernel, by decide⟩
set_option maxRecDepth 20000 in
theorem mv_mo_must : q_mi m_mo_must 1 ∧ q_mv m_mo_must ∧ q_m0 m_mo_must ∧ (q_cl[8]?).map (·.1) = some (q_y m_mo_must).cls := ⟨mi_mo_must, ⟨q_in 1519 (by decide +kernel) rfl, q_in 1520 (by decide +kernel) rfl⟩, ⟨rfl, rfl⟩, rfl⟩
set_option maxRecDepth 20000 in
theorem mi_mo_canBe : q_mi m_mo_canBe 2 := ⟨q_in 1525 rfl rfl, q_in 9 (by decide +kernel) rfl, by decide +kernel, by decide +kernel, by decide +kernel, by decide⟩
set_option maxRecDepth 20000 in
theorem mv_mo_canBe : q_mi m_mo_canBe 2 ∧ q_mv m_mo_canBe ∧ q_m0 m_mo_canBe ∧ (q_cl[8]?).map (·.1) = some (q_y m_mo_canBe).cls := ⟨mi_mo_canBe, ⟨q_in 1523 (by decide +kernel) rfl, q_in 1524 (by decide +kernel) rfl⟩, ⟨rfl, rfl⟩, rfl⟩
set_option maxRecDepth 20000 in
theorem mi_mo_clash : q_mi m_mo_clash 1 := ⟨q_in 1529 rfl rfl, q_in 9 (by decide +kernel) rfl, by decide +kernel, by decide +kernel, by decide +kernel, by decide⟩
set_option maxRecDepth 20000 in
theorem mv_mo_clash : q_mi m_mo_clash 1 ∧ q_mv m_mo_clash ∧ q_m0 m_mo_clash ∧ (q_cl[8]?).map (·.1) = some (q_y m_mo_clash).cls := ⟨mi_mo_clash, ⟨q_in 1527 (by decide +kernel) rfl, q_in 1528 (by decide +kernel) rfl⟩, ⟨rfl, rfl⟩, rfl⟩
set_option maxRecDepth 20000 in
theorem mi_mo_couldBe : q_mi m_mo_couldBe 3 := ⟨q_in 1538 rfl rfl, q_in 9 (by decide +kernel) rfl, by decide +kernel, by decide +kernel, by decide +kernel, by decide⟩
set_option maxRecDepth 20000 in
theorem mv_mo_couldBe : q_mi m_mo_couldBe 3 ∧ q_mv m_mo_couldBe ∧ q_m0 m_mo_couldBe ∧ (q_cl[8]?).map (·.1) = some (q_y m_mo_couldBe).cls := ⟨mi_mo_couldBe, ⟨q_in 1537 (by decide +kernel) rfl, q_is (List.mem_map.mpr ⟨_, List.mem_of_getElem? (l := lw_privs) (i := 116) rfl, rfl⟩) rfl⟩, ⟨rfl, rfl⟩, rfl⟩
set_option maxRecDepth 20000 in
theorem mi_mo_could : q_mi m_mo_could 3 := ⟨q_in 1533 rfl rfl, q_in 9 (by decide +kernel) rfl, by decide +kernel, by decide +kernel, by decide +kernel, by decide⟩
set_option maxRecDepth 20000 in
theorem mv_mo_could : q_mi m_mo_could 3 ∧ q_mv m_mo_could ∧ q_m0 m_mo_could ∧ (q_cl[8]?).map (·.1) = some (q_y m_mo_could).cls := ⟨mi_mo_could, ⟨q_in 1531 (by decide +kernel) rfl, q_in 1532 (by decide +kernel) rfl⟩, ⟨rfl, rfl⟩, rfl⟩
set_option maxRecDepth 20000 in
theorem mi_mo_opens1 : q_mi m_mo_opens1 1 := ⟨q_in 1546 rfl rfl, q_in 9 (by decide +kernel) rfl, by decide +kernel, by decide +kernel, by decide +kernel, by decide⟩
set_option maxRecDepth 20000 in
theorem mv_mo_opens1 : q_mi m_mo_opens1 1 ∧ q_mv m_mo_opens1 ∧ q_m0 m_mo_opens1 ∧ (q_cl[8]?).map (·.1) = some (q_y m_mo_opens1).cls := ⟨mi_mo_opens1, ⟨q_in 1545 (by decide +kernel) rfl, q_is (List.mem_map.mpr ⟨_, List.mem_of_getElem? (l := lw_privs) (i := 117) rfl, rfl⟩) rfl⟩, ⟨rfl, rfl⟩, rfl⟩
set_option maxRecDepth 20000 in
theorem mi_mo_hasOf : q_mi m_mo_hasOf 1 := ⟨q_in 1550 rfl rfl, q_in 9 (by decide +kernel) rfl, by decide +kernel, by decide +kernel, by decide +kernel, by decide⟩
set_option maxRecDepth 20000 in
theorem mv_mo_hasOf : q_mi m_mo_hasOf 1 ∧ q_mv m_mo_hasOf ∧ q_m0 m_mo_hasOf ∧ (q_cl[8]?).map (·.1) = some (q_y m_mo_hasOf).cls := ⟨mi_mo_hasOf, ⟨q_in 1549 (by decide +kernel) rfl, q_is (List.mem_map.mpr ⟨_, List.mem_of_getElem? (l := lw_privs) (i := 118) rfl, rfl⟩) rfl⟩, ⟨rfl, rfl⟩, rfl⟩
set_option maxRecDepth 20000 in
theorem mi_mo_canHave : q_mi m_mo_canHave 2 := ⟨q_in 1558 rfl rfl, q_in 9 (by decide +kernel) rfl, by decide +kernel, by decide +kernel, by decide +kernel, by decide⟩
set_option maxRecDepth 20000 in
theorem mv_mo_canHave : q_mi m_mo_canHave 2 ∧ q_mv m_mo_canHave ∧ q_m0 m_mo_canHave ∧ (q_cl[8]?).map (·.1) = some (q_y m_mo_canHave).cls := ⟨mi_mo_canHave, ⟨q_in 1557 (by decide +kernel) rfl, q_is (List.mem_map.mpr ⟨_, List.mem_of_getElem? (l := lw_privs) (i := 120) rfl, rfl⟩) rfl⟩, ⟨rfl, rfl⟩, rfl⟩
set_option maxRecDepth 20000 in
theorem mi_mo_isNext : q_mi m_mo_isNext 3 := ⟨q_in 1554 rfl rfl, q_in 9 (by decide +kernel) rfl, by decide +kernel, by decide +kernel, by decide +kernel, by decide⟩
set_option maxRecDepth 20000 in
theorem mv_mo_isNext : q_mi m_mo_isNext 3 ∧ q_mv m_mo_isNext ∧ q_m0 m_mo_isNext ∧ (q_cl[8]?).map (·.1) = some (q_y m_mo_isNext).cls := ⟨mi_mo_isNext, ⟨q_in 1553 (by decide +kernel) rfl, q_is (List.mem_map.mpr ⟨_, List.mem_of_getElem? (l := lw_privs) (i := 119) rfl, rfl⟩) rfl⟩, ⟨rfl, rfl⟩, rfl⟩
set_option maxRecDepth 20000 in
theorem mi_mo_ways : q_mi m_mo_ways 1 := ⟨q_in 1542 rfl rfl, q_in 9 (by decide +kernel) rfl, by decide +kernel, by decide +kernel, by decide +kernel, by decide⟩
set_option maxRecDepth 20000 in
theorem mv_mo_ways : q_mi m_mo_ways 1 ∧ q_mv m_mo_ways ∧ q_m0 m_mo_ways ∧ (q_cl[8]?).map (·.1) = some (q_y m_mo_ways).cls := ⟨mi_mo_ways, ⟨q_in 1540 (by decide +kernel) rfl, q_in 1541 (by decide +kernel) rfl⟩, ⟨rfl, rfl⟩, rfl⟩
set_option maxRecDepth 20000 in
theorem mi_mo_hire : q_mi m_mo_hire 2 := ⟨q_in 1562 rfl rfl, q_in 9 (by decide +kernel) rfl, by decide +kernel, by decide +kernel, by decide +kernel, by decide⟩
set_option maxRecDepth 20000 in
theorem mv_mo_hire : q_mi m_mo_hire 2 ∧ q_mv m_mo_hire ∧ q_m0 m_mo_hire ∧ (q_cl[8]?).map (·.1) = some (q_y m_mo_hire).cls := ⟨mi_mo_hire, ⟨q_in 1560 (by decide +kernel) rfl, q_in 1561 (by decide +kernel) rfl⟩, ⟨rfl, rfl⟩, rfl⟩
set_option maxRecDepth 20000 in
theorem mi_mo_undo : q_mi m_mo_undo 0 := ⟨q_in 1570 rfl rfl, q_in 9 (by decide +kernel) rfl, by decide +kernel, by decide +kernel, by decide +kernel, by decide⟩
set_option maxRecDepth 20000 in
theorem mv_mo_undo : q_mi m_mo_undo 0 ∧ q_mv m_mo_undo ∧ q_m0 m_mo_undo ∧ (q_cl[8]?).map (·.1) = some (q_y m_mo_undo).cls := ⟨mi_mo_undo, ⟨q_in 1568 (by decide +kernel) rfl, q_in 1569 (by decide +kernel) rfl⟩, ⟨rfl, rfl⟩, rfl⟩
set_option maxRecDepth 20000 in
theorem mi_mo_crewOf : q_mi m_mo_crewOf 1 := ⟨q_in 1582 rfl rfl, q_in 9 (by decide +kernel) rfl, by decide +kernel, by decide +kernel, by decide +kernel, by decide⟩
set_option maxRecDepth 20000 in
theorem mv_mo_crewOf : q_mi m_mo_crewOf 1 ∧ q_mv m_mo_crewOf ∧ q_m0 m_mo_crewOf ∧ (q_cl[8]?).map (·.1) = some (q_y m_mo_crewOf).cls := ⟨mi_mo_crewOf, ⟨q_in 1581 (by decide +kernel) rfl, q_is (List.mem_map.mpr ⟨_, List.mem_of_getElem? (l := lw_privs) (i := 123) rfl, rfl⟩) rfl⟩, ⟨rfl, rfl⟩, rfl⟩
set_option maxRecDepth 20000 in
theorem mi_mo_crewFor : q_mi m_mo_crewFor 2 := ⟨q_in 1578 rfl rfl, q_in 9 (by decide +kernel) rfl, by decide +kernel, by decide +kernel, by decide +kernel, by decide⟩
set_option maxRecDepth 20000 in
theorem mv_mo_crewFor : q_mi m_mo_crewFor 2 ∧ q_mv m_mo_crewFor ∧ q_m0 m_mo_crewFor ∧ (q_cl[8]?).map (·.1) = some (q_y m_mo_crewFor).cls := ⟨mi_mo_crewFor, ⟨q_in 1577 (by decide +kernel) rfl, q_is (List.mem_map.mpr ⟨_, List.mem_of_getElem? (l := lw_privs) (i := 122) rfl, rfl⟩) rfl⟩, ⟨rfl, rfl⟩, rfl⟩
set_option maxRecDepth 20000 in
theorem mi_mo_crew : q_mi m_mo_crew 3 := ⟨q_in 1574 rfl rfl, q_in 9 (by decide +kernel) rfl, by decide +kernel, by decide +kernel, by decide +kernel, by decide⟩
set_option maxRecDepth 20000 in
theorem mv_mo_crew : q_mi m_mo_crew 3 ∧ q_mv m_mo_crew ∧ q_m0 m_mo_crew ∧ (q_cl[8]?).map (·.1) = some (q_y m_mo_crew).cls := ⟨mi_mo_crew, ⟨q_in 1572 (by decide +kernel) rfl, q_in 1573 (by decide +kernel) rfl⟩, ⟨rfl, rfl⟩, rfl⟩
set_option maxRecDepth 20000 in
theorem mi_mo_take : q_mi m_mo_take 2 := ⟨q_in 1586 rfl rfl, q_in 9 (by decide +kernel) rfl, by decide +kernel, by decide +kernel, by decide +kernel, by decide⟩
set_option maxRecDepth 20000 in
theorem mv_mo_take : q_mi m_mo_take 2 ∧ q_mv m_mo_take ∧ q_m0 m_mo_take ∧ (q_cl[8]?).map (·.1) = some (q_y m_mo_take).cls := ⟨mi_mo_take, ⟨q_in 1584 (by decide +kernel) rfl, q_in 1585 (by decide +kernel) rfl⟩, ⟨rfl, rfl⟩, rfl⟩
set_option maxRecDepth 20000 in
theorem mi_mo_crowd : q_mi m_mo_crowd 4 := ⟨q_in 1590 rfl rfl, q_in 9 (by decide +kernel) rfl, by decide +kernel, by decide +kernel, by decide +kernel, by decide⟩
set_option maxRecDepth 20000 in
theorem mv_mo_crowd : q_mi m_mo_crowd 4 ∧ q_mv m_mo_crowd ∧ q_m0 m_mo_crowd ∧ (q_cl[8]?).map (·.1) = some (q_y m_mo_crowd).cls := ⟨mi_mo_crowd, ⟨q_in 1588 (by decide +kernel) rfl, q_in 1589 (by decide +kernel) rfl⟩, ⟨rfl, rfl⟩, rfl⟩
set_option maxRecDepth 20000 in
theorem mi_mo_shade : q_mi m_mo_shade 2 := ⟨q_in 1594 rfl rfl, q_in 9 (by decide +kernel) rfl, by decide +kernel, by decide +kernel, by decide +kernel, by decide⟩
set_option maxRecDepth 20000 in
theorem mv_mo_shade : q_mi m_mo_shade 2 ∧ q_mv m_mo_shade ∧ q_m0 m_mo_shade ∧ (q_cl[8]?).map (·.1) = some (q_y m_mo_shade).cls := ⟨mi_mo_shade, ⟨q_in 1592 (by decide +kernel) rfl, q_in 1593 (by decide +kernel) rfl⟩, ⟨rfl, rfl⟩, rfl⟩
set_option maxRecDepth 20000 in
theorem mi_mo_seed : q_mi m_mo_seed 1 := ⟨q_in 1598 rfl rfl, q_in 9 (by decide +kernel) rfl, by decide +kernel, by decide +kernel, by decide +kernel, by decide⟩
set_option maxRecDepth 20000 in
theorem mv_mo_seed : q_mi m_mo_seed 1 ∧ q_mv m_mo_seed ∧ q_m0 m_mo_seed ∧ (q_cl[8]?).map (·.1) = some (q_y m_mo_seed).cls := ⟨mi_mo_seed, ⟨q_in 1596 (by decide +kernel) rfl, q_in 1597 (by decide +kernel) rfl⟩, ⟨rfl, rfl⟩, rfl⟩
set_option maxRecDepth 20000 in
theorem mi_mo_drawOf : q_mi m_mo_drawOf 1 := ⟨q_in 1608 rfl rfl, q_in 9 (by decide +kernel) rfl, by decide +kernel, by decide +kernel, by decide +kernel, by decide⟩
set_option maxRecDepth 20000 in
theorem mv_mo_drawOf : q_mi m_mo_drawOf 1 ∧ q_mv m_mo_drawOf ∧ q_m0 m_mo_drawOf ∧ (q_cl[8]?).map (·.1) = some (q_y m_mo_drawOf).cls := ⟨mi_mo_drawOf, ⟨q_in 1607 (by decide +kernel) rfl, q_is (List.mem_map.mpr ⟨_, List.mem_of_getElem? (l := lw_privs) (i := 124) rfl, rfl⟩) rfl⟩, ⟨rfl, rfl⟩, rfl⟩
set_option maxRecDepth 20000 in
theorem mi_mo_priceAt : q_mi m_mo_priceAt 1 := ⟨q_in 1616 rfl rfl, q_in 9 (by decide +kernel) rfl, by decide +kernel, by decide +kernel, by decide +kernel, by decide⟩
set_option maxRecDepth 20000 in
theorem mv_mo_priceAt : q_mi m_mo_priceAt 1 ∧ q_mv m_mo_priceAt ∧ q_m0 m_mo_priceAt ∧ (q_cl[8]?).map (·.1) = some (q_y m_mo_priceAt).cls := ⟨mi_mo_priceAt, ⟨q_in 1615 (by decide +kernel) rfl, q_is (List.mem_map.mpr ⟨_, List.mem_of_getElem? (l := lw_privs) (i := 125) rfl, rfl⟩) rfl⟩, ⟨rfl, rfl⟩, rfl⟩
set_option maxRecDepth 20000 in
theorem mi_mo_days : q_mi m_mo_days 2 := ⟨q_in 1602 rfl rfl, q_in 9 (by decide +kernel) rfl, by decide +kernel, by decide +kernel, by decide +kernel, by decide⟩
set_option maxRecDepth 20000 in
theorem mv_mo_days : q_mi m_mo_days 2 ∧ q_mv m_mo_days ∧ q_m0 m_mo_days ∧ (q_cl[8]?).map (·.1) = some (q_y m_mo_days).cls := ⟨mi_mo_days, ⟨q_in 1600 (by decide +kernel) rfl, q_in 1601 (by decide +kernel) rfl⟩, ⟨rfl, rfl⟩, rfl⟩
set_option maxRecDepth 20000 in
theorem mi_mo_average : q_mi m_mo_average 0 := ⟨q_in 1620 rfl rfl, q_in 9 (by decide +kernel) rfl, by decide +kernel, by decide +kernel, by decide +kernel, by decide⟩
set_option maxRecDepth 20000 in
theorem mv_mo_average : q_mi m_mo_average 0 ∧ q_mv m_mo_average ∧ q_m0 m_mo_average ∧ (q_cl[8]?).map (·.1) = some (q_y m_mo_average).cls := ⟨mi_mo_average, ⟨q_in 1618 (by decide +kernel) rfl, q_in 1619 (by decide +kernel) rfl⟩, ⟨rfl, rfl⟩, rfl⟩
set_option maxRecDepth 20000 in
theorem mi_mo_checked : q_mi m_mo_checked 2 := ⟨q_in 1627 rfl rfl, q_in 9 (by decide +kernel) rfl, by decide +kernel, by decide +kernel, by decide +kernel, by decide⟩
theorem ms_mo_checked : q_mi m_mo_checked 2 ∧ Cond.static (q_y m_mo_checked) ∈ q_T ∧ q_m0 m_mo_checked := ⟨mi_mo_checked, q_in 1626 (by decide +kernel) rfl, rfl, rfl⟩
set_option maxRecDepth 20000 in
theorem mi_mo_image : q_mi m_mo_image 0 := ⟨q_in 1624 rfl rfl, q_in 9 (by decide +kernel) rfl, by decide +kernel, by decide +kernel, by decide +kernel, by decide⟩
set_option maxRecDepth 20000 in
theorem mv_mo_image : q_mi m_mo_image 0 ∧ q_mv m_mo_image ∧ q_m0 m_mo_image ∧ (q_cl[8]?).map (·.1) = some (q_y m_mo_image).cls := ⟨mi_mo_image, ⟨q_in 1622 (by decide +kernel) rfl, q_in 1623 (by decide +kernel) rfl⟩, ⟨rfl, rfl⟩, rfl⟩
set_option maxRecDepth 20000 in
theorem mi_mo_octet : q_mi m_mo_octet 1 := ⟨q_in 1631 rfl rfl, q_in 9 (by decide +kernel) rfl, by decide +kernel, by decide +kernel, by decide +kernel, by decide⟩
set_option maxRecDepth 20000 in
theorem mv_mo_octet : q_mi m_mo_octet 1 ∧ q_mv m_mo_octet ∧ q_m0 m_mo_octet ∧ (q_cl[8]?).map (·.1) = some (q_y m_mo_octet).cls := ⟨mi_mo_octet, ⟨q_in 1629 (by decide +kernel) rfl, q_in 1630 (by decide +kernel) rfl⟩, ⟨rfl, rfl⟩, rfl⟩
set_option maxRecDepth 20000 in
theorem mi_mo_on : q_mi m_mo_on 0 := ⟨q_in 1635 rfl rfl, q_in 9 (by decide +kernel) rfl, by decide +kernel, by decide +kernel, by decide +kernel, by decide⟩
set_option maxRecDepth 20000 in
theorem mv_mo_on : q_mi m_mo_on 0 ∧ q_mv m_mo_on ∧ q_m0 m_mo_on ∧ (q_cl[8]?).map (·.1) = some (q_y m_mo_on).cls := ⟨mi_mo_on, ⟨q_in 1633 (by decide +kernel) rfl, q_in 1634 (by decide +kernel) rfl⟩, ⟨rfl, rfl⟩, rfl⟩
set_option maxRecDepth 20000 in
theorem mi_ji_bitCount : q_mi m_ji_bitCount 1 := ⟨q_in 668 rfl rfl, q_in 15 (by decide +kernel) rfl, by decide +kernel, by decide +kernel, by decide +kernel, by decide⟩
theorem ms_ji_bitCount : q_mi m_ji_bitCount 1 ∧ Cond.static (q_y m_ji_bitCount) ∈ q_T ∧ q_m0 m_ji_bitCount := ⟨mi_ji_bitCount, q_in 667 (by decide +kernel) rfl, rfl, rfl⟩
set_option maxRecDepth 20000 in
theorem mi_jm_floorDiv : q_mi m_jm_floorDiv 2 := ⟨q_in 631 rfl rfl, q_in 14 (by decide +kernel) rfl, by decide +kernel, by decide +kernel, by decide +kernel, by decide⟩
theorem ms_jm_floorDiv : q_mi m_jm_floorDiv 2 ∧ Cond.static (q_y m_jm_floorDiv) ∈ q_T ∧ q_m0 m_jm_floorDiv := ⟨mi_jm_floorDiv, q_in 630 (by decide +kernel) rfl, rfl, rfl⟩
set_option maxRecDepth 20000 in
theorem mi_jm_abs : q_mi m_jm_abs 1 := ⟨q_in 585 rfl rfl, q_in 14 (by decide +kernel) rfl, by decide +kernel, by decide +kernel, by decide +kernel, by decide⟩
theorem ms_jm_abs : q_mi m_jm_abs 1 ∧ Cond.static (q_y m_jm_abs) ∈ q_T ∧ q_m0 m_jm_abs := ⟨mi_jm_abs, q_in 584 (by decide +kernel) rfl, rfl, rfl⟩
set_option maxRecDepth 20000 in
theorem mi_jm_max : q_mi m_jm_max 2 := ⟨q_in 638 rfl rfl, q_in 14 (by decide +kernel) rfl, by decide +kernel, by decide +kernel, by decide +kernel, by decide⟩
theorem ms_jm_max : q_mi m_jm_max 2 ∧ Cond.static (q_y m_jm_max) ∈ q_T ∧ q_m0 m_jm_max := ⟨mi_jm_max, q_in 637 (by decide +kernel) rfl, rfl, rfl⟩
set_option maxRecDepth 20000 in
theorem mi_jm_maxL : q_mi m_jm_maxL 2 := ⟨q_in 628 rfl rfl, q_in 14 (by decide +kernel) rfl, by decide +kernel, by decide +kernel, by decide +kernel, by decide⟩
theorem ms_jm_maxL : q_mi m_jm_maxL 2 ∧ Cond.static (q_y m_jm_maxL) ∈ q_T ∧ q_m0 m_jm_maxL := ⟨mi_jm_maxL, q_in 627 (by decide +kernel) rfl, rfl, rfl⟩
set_option maxRecDepth 20000 in
theorem mi_jm_min : q_mi m_jm_min 2 := ⟨q_in 496 rfl rfl, q_in 14 (by decide +kernel) rfl, by decide +kernel, by decide +kernel, by decide +kernel, by decide⟩
theorem ms_jm_min : q_mi m_jm_min 2 ∧ Cond.static (q_y m_jm_min) ∈ q_T ∧ q_m0 m_jm_min := ⟨mi_jm_min, q_in 495 (by decide +kernel) rfl, rfl, rfl⟩
set_option maxRecDepth 20000 in
theorem mi_jm_minL : q_mi m_jm_minL 2 := ⟨q_in 625 rfl rfl, q_in 14 (by decide +kernel) rfl, by decide +kernel, by decide +kernel, by decide +kernel, by decide⟩
theorem ms_jm_minL : q_mi m_jm_minL 2 ∧ Cond.static (q_y m_jm_minL) ∈ q_T ∧ q_m0 m_jm_minL := ⟨mi_jm_minL, q_in 624 (by decide +kernel) rfl, rfl, rfl⟩
set_option maxRecDepth 20000 in
theorem mi_js_length : q_mi m_js_length 0 := ⟨q_in 354 rfl rfl, q_in 10 (by decide +kernel) rfl, by decide +kernel, by decide +kernel, by decide +kernel, by decide⟩
set_option maxRecDepth 20000 in
theorem mi_js_charAt : q_mi m_js_charAt 1 := ⟨q_in 364 rfl rfl, q_in 10 (by decide +kernel) rfl, by decide +kernel, by decide +kernel, by decide +kernel, by decide⟩
set_option maxRecDepth 20000 in
theorem mi_js_coder : q_mi m_js_coder 0 := ⟨q_in 358 rfl rfl, q_in 10 (by decide +kernel) rfl, by decide +kernel, by decide +kernel, by decide +kernel, by decide⟩
set_option maxRecDepth 20000 in
theorem mi_js_isLatin1 : q_mi m_js_isLatin1 0 := ⟨q_in 368 rfl rfl, q_in 10 (by decide +kernel) rfl, by decide +kernel, by decide +kernel, by decide +kernel, by decide⟩
set_option maxRecDepth 20000 in
theorem mi_js_checkIndex : q_mi m_js_checkIndex 2 := ⟨q_in 374 rfl rfl, q_in 10 (by decide +kernel) rfl, by decide +kernel, by decide +kernel, by decide +kernel, by decide⟩
theorem ms_js_checkIndex : q_mi m_js_checkIndex 2 ∧ Cond.static (q_y m_js_checkIndex) ∈ q_T ∧ q_m0 m_js_checkIndex := ⟨mi_js_checkIndex, q_in 373 (by decide +kernel) rfl, rfl, rfl⟩
set_option maxRecDepth 20000 in
theorem mi_jl_charAt : q_mi m_jl_charAt 2 := ⟨q_in 371 rfl rfl, q_in 11 (by decide +kernel) rfl, by decide +kernel, by decide +kernel, by decide +kernel, by decide⟩
theorem ms_jl_charAt : q_mi m_jl_charAt 2 ∧ Cond.static (q_y m_jl_charAt) ∈ q_T ∧ q_m0 m_jl_charAt := ⟨mi_jl_charAt, q_in 370 (by decide +kernel) rfl, rfl, rfl⟩
set_option maxRecDepth 20000 in
theorem mi_ju_getChar : q_mi m_ju_getChar 2 := ⟨q_in 392 rfl rfl, q_in 13 (by decide +kernel) rfl, by decide +kernel, by decide +kernel, by decide +kernel, by decide⟩
theorem ms_ju_getChar : q_mi m_ju_getChar 2 ∧ Cond.static (q_y m_ju_getChar) ∈ q_T ∧ q_m0 m_ju_getChar := ⟨mi_ju_getChar, q_in 391 (by decide +kernel) rfl, rfl, rfl⟩
set_option maxRecDepth 20000 in
theorem mi_ju_length : q_mi m_ju_length 1 := ⟨q_in 388 rfl rfl, q_in 13 (by decide +kernel) rfl, by decide +kernel, by decide +kernel, by decide +kernel, by decide⟩
theorem ms_ju_length : q_mi m_ju_length 1 ∧ Cond.static (q_y m_ju_length) ∈ q_T ∧ q_m0 m_ju_length := ⟨mi_ju_length, q_in 387 (by decide +kernel) rfl, rfl, rfl⟩
set_option maxRecDepth 20000 in
theorem mi_ju_charAt : q_mi m_ju_charAt 2 := ⟨q_in 382 rfl rfl, q_in 13 (by decide +kernel) rfl, by decide +kernel, by decide +kernel, by decide +kernel, by decide⟩
theorem ms_ju_charAt : q_mi m_ju_charAt 2 ∧ Cond.static (q_y m_ju_charAt) ∈ q_T ∧ q_m0 m_ju_charAt := ⟨mi_ju_charAt, q_in 381 (by decide +kernel) rfl, rfl, rfl⟩
set_option maxRecDepth 20000 in
theorem mi_ju_checkIndex : q_mi m_ju_checkIndex 2 := ⟨q_in 385 rfl rfl, q_in 13 (by decide +kernel) rfl, by decide +kernel, by decide +kernel, by decide +kernel, by decide⟩
theorem ms_ju_checkIndex : q_mi m_ju_checkIndex 2 ∧ Cond.static (q_y m_ju_checkIndex) ∈ q_T ∧ q_m0 m_ju_checkIndex := ⟨mi_ju_checkIndex, q_in 384 (by decide +kernel) rfl, rfl, rfl⟩
set_option maxRecDepth 20000 in
theorem mi_jp_checkIndex : q_mi m_jp_checkIndex 3 := ⟨q_in 379 rfl rfl, q_in 12 (by decide +kernel) rfl, by decide +kernel, by decide +kernel, by decide +kernel, by decide⟩
theorem ms_jp_checkIndex : q_mi m_jp_checkIndex 3 ∧ Cond.static (q_y m_jp_checkIndex) ∈ q_T ∧ q_m0 m_jp_checkIndex := ⟨mi_jp_checkIndex, q_in 378 (by decide +kernel) rfl, rfl, rfl⟩
theorem ml_lw_9 : Cond.methodLink "HiredShadesLaw" 9 (q_y m_hs_init) ∈ q_T := q_in 19 (by decide +kernel) rfl
theorem ml_hs_9 : Cond.methodLinkNest "HiredShades" 9 (q_y m_tp_init) "HiredShades" ∈ q_nest := List.mem_filter.mpr ⟨List.mem_of_getElem? (i := 27) (by decide +kernel), rfl⟩
theorem ml_hs_18 : Cond.methodLink "HiredShades" 18 (q_y m_gr_init) ∈ q_T := q_in 71 (by decide +kernel) rfl
theorem ml_gr_17 : Cond.methodLink "HiredShades$GuildReader" 17 (q_y m_ru_init) ∈ q_T := q_in 77 (by decide +kernel) rfl
theorem ml_hs_27 : Cond.methodLink "HiredShades" 27 (q_y m_hi_init) ∈ q_T := q_in 118 (by decide +kernel) rfl
theorem ml_hi_20 : Cond.methodLink "HiredShades$Hires" 20 (q_y m_hi_clear) ∈ q_T := q_in 124 (by decide +kernel) rfl
theorem ml_hs_34 : Cond.methodLinkNest "HiredShades" 34 (q_y m_ch_init) "HiredShades" ∈ q_nest := List.mem_filter.mpr ⟨List.mem_of_getElem? (i := 145) (by decide +kernel), rfl⟩
theorem ml_hs_41 : Cond.methodLinkNest "HiredShades" 41 (q_y m_cr_init) "HiredShades" ∈ q_nest := List.mem_filter.mpr ⟨List.mem_of_getElem? (i := 155) (by decide +kernel), rfl⟩
theorem ml_hs_56 : Cond.methodLinkNest "HiredShades" 56 (q_y m_gd_init) "HiredShades" ∈ q_nest := List.mem_filter.mpr ⟨List.mem_of_getElem? (i := 184) (by decide +kernel), rfl⟩
theorem ml_lw_13 : Cond.methodLink "HiredShadesLaw" 13 (q_y m_hs_feed) ∈ q_T := q_in 302 (by decide +kernel) rfl
theorem ml_hs_67 : Cond.methodLink "HiredShades" 67 (q_y m_tp_append) ∈ q_T := q_in 306 (by decide +kernel) rfl
theorem ml_lw_18 : Cond.methodLink "HiredShadesLaw" 18 (q_y m_hs_end) ∈ q_T := q_in 310 (by decide +kernel) rfl
theorem ml_lw_23 : Cond.methodLink "HiredShadesLaw" 23 (q_y m_hs_guild) ∈ q_T := q_in 314 (by decide +kernel) rfl
theorem ml_hs_71 : Cond.methodLink "HiredShades" 71 (q_y m_gr_read) ∈ q_T := q_in 318 (by decide +kernel) rfl
theorem ml_gr_28 : Cond.methodLink "HiredShades$GuildReader" 28 (q_y m_gd_clear) ∈ q_T := q_in 322 (by decide +kernel) rfl
theorem ml_gr_33 : Cond.methodLink "HiredShades$GuildReader" 33 (q_y m_ru_clear) ∈ q_T := q_in 326 (by decide +kernel) rfl
theorem ml_gr_34 : Cond.methodLink "HiredShades$GuildReader" 34 (q_y m_tp_rewind) ∈ q_T := q_in 330 (by decide +kernel) rfl
theorem ml_gr_39 : Cond.methodLink "HiredShades$GuildReader" 39 (q_y m_tp_skipBlanks) ∈ q_T := q_in 334 (by decide +kernel) rfl
theorem ml_gr_43 : Cond.methodLink "HiredShades$GuildReader" 43 (q_y m_gr_readStatement) ∈ q_T := q_in 338 (by decide +kernel) rfl
theorem ml_gr_69 : Cond.methodLink "HiredShades$GuildReader" 69 (q_y m_tp_wordHere) ∈ q_T := q_in 342 (by decide +kernel) rfl
theorem ml_tp_35 : Cond.methodLink "HiredShades$Tape" 35 (q_y m_tp_skipBlanks) ∈ q_T := q_in 346 (by decide +kernel) rfl
theorem ml_tp_42 : Cond.methodLink "HiredShades$Tape" 42 (q_y m_tp_isLetter) ∈ q_T := q_in 347 (by decide +kernel) rfl
theorem ml_tp_48 : Cond.methodLink "HiredShades$Tape" 48 (q_y m_js_length) ∈ q_T := q_in 351 (by decide +kernel) rfl
theorem ml_js_335 : Cond.methodLink "java/lang/String" 335 (q_y m_js_coder) ∈ q_T := q_in 355 (by decide +kernel) rfl
theorem ml_tp_52 : Cond.methodLink "HiredShades$Tape" 52 (q_y m_js_charAt) ∈ q_T := q_in 361 (by decide +kernel) rfl
theorem ml_js_492 : Cond.methodLink "java/lang/String" 492 (q_y m_js_isLatin1) ∈ q_T := q_in 365 (by decide +kernel) rfl
theorem ml_js_495 : Cond.methodLink "java/lang/String" 495 (q_y m_jl_charAt) ∈ q_T := q_in 369 (by decide +kernel) rfl
theorem ml_jl_9 : Cond.methodLink "java/lang/StringLatin1" 9 (q_y m_js_checkIndex) ∈ q_T := q_in 372 (by decide +kernel) rfl
theorem ml_js_1059 : Cond.methodLink "java/lang/String" 1059 (q_y m_jp_checkIndex) ∈ q_T := q_in 377 (by decide +kernel) rfl
theorem ml_js_498 : Cond.methodLink "java/lang/String" 498 (q_y m_ju_charAt) ∈ q_T := q_in 380 (by decide +kernel) rfl
theorem ml_ju_67 : Cond.methodLink "java/lang/StringUTF16" 67 (q_y m_ju_checkIndex) ∈ q_T := q_in 383 (by decide +kernel) rfl
theorem ml_ju_48 : Cond.methodLink "java/lang/StringUTF16" 48 (q_y m_ju_length) ∈ q_T := q_in 386 (by decide +kernel) rfl
theorem ml_ju_414 : Cond.methodLink "java/lang/StringUTF16" 414 (q_y m_js_checkIndex) ∈ q_T := q_in 389 (by decide +kernel) rfl
theorem ml_ju_71 : Cond.methodLink "java/lang/StringUTF16" 71 (q_y m_ju_getChar) ∈ q_T := q_in 390 (by decide +kernel) rfl
theorem ml_gr_72 : Cond.methodLink "HiredShades$GuildReader" 72 (q_y m_tp_failHere) ∈ q_T := q_in 399 (by decide +kernel) rfl
theorem ml_tp_31 : Cond.methodLink "HiredShades$Tape" 31 (q_y m_tp_fail) ∈ q_T := q_in 403 (by decide +kernel) rfl
theorem ml_gr_76 : Cond.methodLink "HiredShades$GuildReader" 76 (q_y m_tp_takeWordHere) ∈ q_T := q_in 407 (by decide +kernel) rfl
theorem ml_gr_79 : Cond.methodLink "HiredShades$GuildReader" 79 (q_y m_gr_readTraits) ∈ q_T := q_in 411 (by decide +kernel) rfl
theorem ml_gr_91 : Cond.methodLink "HiredShades$GuildReader" 91 (q_y m_gr_readNewName) ∈ q_T := q_in 415 (by decide +kernel) rfl
theorem ml_gr_171 : Cond.methodLink "HiredShades$GuildReader" 171 (q_y m_tp_takeName) ∈ q_T := q_in 419 (by decide +kernel) rfl
theorem ml_tp_56 : Cond.methodLink "HiredShades$Tape" 56 (q_y m_tp_wordHere) ∈ q_T := q_in 423 (by decide +kernel) rfl
theorem ml_tp_59 : Cond.methodLink "HiredShades$Tape" 59 (q_y m_tp_failHere) ∈ q_T := q_in 424 (by decide +kernel) rfl
theorem ml_gr_174 : Cond.methodLink "HiredShades$GuildReader" 174 (q_y m_gd_isGiven) ∈ q_T := q_in 425 (by decide +kernel) rfl
theorem ml_gd_63 : Cond.methodLink "HiredShades$Guild" 63 (q_y m_gd_named) ∈ q_T := q_in 429 (by decide +kernel) rfl
theorem ml_gr_58 : Cond.methodLink "HiredShades$GuildReader" 58 (q_y m_tp_fail) ∈ q_T := q_in 433 (by decide +kernel) rfl
theorem ml_gr_177 : Cond.methodLink "HiredShades$GuildReader" 177 (q_y m_gd_addNamed) ∈ q_T := q_in 434 (by decide +kernel) rfl
theorem ml_gd_67 : Cond.methodLink "HiredShades$Guild" 67 (q_y m_gd_hasRoom) ∈ q_T := q_in 438 (by decide +kernel) rfl
theorem ml_gr_114 : Cond.methodLink "HiredShades$GuildReader" 114 (q_y m_gr_readNumber) ∈ q_T := q_in 444 (by decide +kernel) rfl
theorem ml_gr_155 : Cond.methodLink "HiredShades$GuildReader" 155 (q_y m_tp_takeNumber) ∈ q_T := q_in 448 (by decide +kernel) rfl
theorem ml_tp_66 : Cond.methodLink "HiredShades$Tape" 66 (q_y m_tp_isDigit) ∈ q_T := q_in 452 (by decide +kernel) rfl
theorem ml_gr_118 : Cond.methodLink "HiredShades$GuildReader" 118 (q_y m_tp_passOver) ∈ q_T := q_in 455 (by decide +kernel) rfl
theorem ml_gr_82 : Cond.methodLink "HiredShades$GuildReader" 82 (q_y m_gr_begin) ∈ q_T := q_in 459 (by decide +kernel) rfl
theorem ml_gr_107 : Cond.methodLink "HiredShades$GuildReader" 107 (q_y m_gd_hasRoom) ∈ q_T := q_in 463 (by decide +kernel) rfl
theorem ml_gr_85 : Cond.methodLink "HiredShades$GuildReader" 85 (q_y m_gr_readPerson) ∈ q_T := q_in 464 (by decide +kernel) rfl
theorem ml_gr_128 : Cond.methodLink "HiredShades$GuildReader" 128 (q_y m_gr_readForTraits) ∈ q_T := q_in 468 (by decide +kernel) rfl
theorem ml_gr_88 : Cond.methodLink "HiredShades$GuildReader" 88 (q_y m_gr_readShade) ∈ q_T := q_in 472 (by decide +kernel) rfl
theorem ml_gr_134 : Cond.methodLink "HiredShades$GuildReader" 134 (q_y m_tp_takeWord) ∈ q_T := q_in 476 (by decide +kernel) rfl
theorem ml_tp_63 : Cond.methodLink "HiredShades$Tape" 63 (q_y m_tp_takeWordHere) ∈ q_T := q_in 480 (by decide +kernel) rfl
theorem ml_gr_94 : Cond.methodLink "HiredShades$GuildReader" 94 (q_y m_gr_readRoad) ∈ q_T := q_in 481 (by decide +kernel) rfl
theorem ml_gr_146 : Cond.methodLink "HiredShades$GuildReader" 146 (q_y m_gr_readKnownName) ∈ q_T := q_in 485 (by decide +kernel) rfl
theorem ml_gr_181 : Cond.methodLink "HiredShades$GuildReader" 181 (q_y m_gd_named) ∈ q_T := q_in 489 (by decide +kernel) rfl
theorem ml_gr_158 : Cond.methodLink "HiredShades$GuildReader" 158 (q_y m_gd_addRoad) ∈ q_T := q_in 490 (by decide +kernel) rfl
theorem ml_gd_71 : Cond.methodLink "HiredShades$Guild" 71 (q_y m_jm_min) ∈ q_T := q_in 494 (by decide +kernel) rfl
theorem ml_gr_97 : Cond.methodLink "HiredShades$GuildReader" 97 (q_y m_gr_readSeen) ∈ q_T := q_in 497 (by decide +kernel) rfl
theorem ml_gr_165 : Cond.methodLink "HiredShades$GuildReader" 165 (q_y m_tp_passOverWord) ∈ q_T := q_in 501 (by decide +kernel) rfl
theorem ml_gr_100 : Cond.methodLink "HiredShades$GuildReader" 100 (q_y m_ru_readRule) ∈ q_T := q_in 505 (by decide +kernel) rfl
theorem ml_ru_42 (d : Nat) : Cond.methodLink "HiredShades$Rules" 42 (q_y (m_ru_readSum d)) ∈ q_T := q_in (w := Cond.methodLink "HiredShades$Rules" 42 ⟨"HiredShades$Rules", "readSum", "(I)Z"⟩) 509 (by decide +kernel) rfl
theorem ml_ru_86 (d : Nat) : Cond.methodLink "HiredShades$Rules" 86 (q_y (m_ru_readProduct d)) ∈ q_T := q_in (w := Cond.methodLink "HiredShades$Rules" 86 ⟨"HiredShades$Rules", "readProduct", "(I)Z"⟩) 513 (by decide +kernel) rfl
theorem ml_ru_89 (d : Nat) : Cond.methodLink "HiredShades$Rules" 89 (q_y (m_ru_readPart d)) ∈ q_T := q_in (w := Cond.methodLink "HiredShades$Rules" 89 ⟨"HiredShades$Rules", "readPart", "(I)Z"⟩) 517 (by decide +kernel) rfl
theorem ml_ru_77 : Cond.methodLink "HiredShades$Rules" 77 (q_y m_tp_skipBlanks) ∈ q_T := q_in 521 (by decide +kernel) rfl
theorem ml_ru_92 : Cond.methodLink "HiredShades$Rules" 92 (q_y m_tp_isDigit) ∈ q_T := q_in 522 (by decide +kernel) rfl
theorem ml_ru_95 : Cond.methodLink "HiredShades$Rules" 95 (q_y m_tp_takeNumber) ∈ q_T := q_in 523 (by decide +kernel) rfl
theorem ml_ru_60 : Cond.methodLink "HiredShades$Rules" 60 (q_y m_ru_emit) ∈ q_T := q_in 524 (by decide +kernel) rfl
theorem ml_ru_70 : Cond.methodLink "HiredShades$Rules" 70 (q_y m_ru_mayOpen) ∈ q_T := q_in 528 (by decide +kernel) rfl
theorem ml_ru_108 : Cond.methodLink "HiredShades$Rules" 108 (q_y m_tp_fail) ∈ q_T := q_in 532 (by decide +kernel) rfl
theorem ml_ru_80 : Cond.methodLink "HiredShades$Rules" 80 (q_y m_tp_takeSign) ∈ q_T := q_in 533 (by decide +kernel) rfl
theorem ml_ru_66 : Cond.methodLink "HiredShades$Rules" 66 (q_y m_tp_wordHere) ∈ q_T := q_in 537 (by decide +kernel) rfl
theorem ml_ru_73 : Cond.methodLink "HiredShades$Rules" 73 (q_y m_tp_takeWordHere) ∈ q_T := q_in 538 (by decide +kernel) rfl
theorem ml_ru_102 (d : Nat) : Cond.methodLink "HiredShades$Rules" 102 (q_y (m_ru_readOfTwo d)) ∈ q_T := q_in (w := Cond.methodLink "HiredShades$Rules" 102 ⟨"HiredShades$Rules", "readOfTwo", "(I)Z"⟩) 539 (by decide +kernel) rfl
theorem ml_ru_83 : Cond.methodLink "HiredShades$Rules" 83 (q_y m_tp_failHere) ∈ q_T := q_in 543 (by decide +kernel) rfl
theorem ml_ru_46 : Cond.methodLink "HiredShades$Rules" 46 (q_y m_tp_takeWord) ∈ q_T := q_in 544 (by decide +kernel) rfl
theorem ml_ru_51 (d : Nat) : Cond.methodLink "HiredShades$Rules" 51 (q_y (m_ru_readTest d)) ∈ q_T := q_in (w := Cond.methodLink "HiredShades$Rules" 51 ⟨"HiredShades$Rules", "readTest", "(I)Z"⟩) 545 (by decide +kernel) rfl
theorem ml_ru_54 (d : Nat) : Cond.methodLink "HiredShades$Rules" 54 (q_y (m_ru_readBoth d)) ∈ q_T := q_in (w := Cond.methodLink "HiredShades$Rules" 54 ⟨"HiredShades$Rules", "readBoth", "(I)Z"⟩) 549 (by decide +kernel) rfl
theorem ml_ru_63 (d : Nat) : Cond.methodLink "HiredShades$Rules" 63 (q_y (m_ru_readFact d)) ∈ q_T := q_in (w := Cond.methodLink "HiredShades$Rules" 63 ⟨"HiredShades$Rules", "readFact", "(I)Z"⟩) 553 (by decide +kernel) rfl
theorem ml_ru_57 : Cond.methodLink "HiredShades$Rules" 57 (q_y m_tp_passOverWord) ∈ q_T := q_in 557 (by decide +kernel) rfl
theorem ml_gr_104 : Cond.methodLink "HiredShades$GuildReader" 104 (q_y m_gr_readTithe) ∈ q_T := q_in 558 (by decide +kernel) rfl
theorem ml_gr_47 : Cond.methodLink "HiredShades$GuildReader" 47 (q_y m_tp_takeSign) ∈ q_T := q_in 562 (by decide +kernel) rfl
theorem ml_hs_75 : Cond.methodLink "HiredShades" 75 (q_y m_gr_settle) ∈ q_T := q_in 563 (by decide +kernel) rfl
theorem ml_gr_62 : Cond.methodLink "HiredShades$GuildReader" 62 (q_y m_gd_settle) ∈ q_T := q_in 567 (by decide +kernel) rfl
theorem ml_gd_76 : Cond.methodLink "HiredShades$Guild" 76 (q_y m_gd_joinRoads) ∈ q_T := q_in 571 (by decide +kernel) rfl
theorem ml_gd_79 : Cond.methodLink "HiredShades$Guild" 79 (q_y m_gd_sortByHour) ∈ q_T := q_in 575 (by decide +kernel) rfl
theorem ml_gd_82 : Cond.methodLink "HiredShades$Guild" 82 (q_y m_gd_near) ∈ q_T := q_in 579 (by decide +kernel) rfl
theorem ml_gd_88 : Cond.methodLink "HiredShades$Guild" 88 (q_y m_jm_abs) ∈ q_T := q_in 583 (by decide +kernel) rfl
theorem ml_gd_85 : Cond.methodLink "HiredShades$Guild" 85 (q_y m_gd_passOf) ∈ q_T := q_in 586 (by decide +kernel) rfl
theorem ml_gr_65 : Cond.methodLink "HiredShades$GuildReader" 65 (q_y m_ru_setPrices) ∈ q_T := q_in 590 (by decide +kernel) rfl
theorem ml_ru_115 : Cond.methodLink "HiredShades$Rules" 115 (q_y m_ru_priceOf) ∈ q_T := q_in 594 (by decide +kernel) rfl
theorem ml_ru_125 : Cond.methodLink "HiredShades$Rules" 125 (q_y m_gd_unlikeTraits) ∈ q_T := q_in 598 (by decide +kernel) rfl
theorem ml_ru_132 : Cond.methodLink "HiredShades$Rules" 132 (q_y m_ru_reckon) ∈ q_T := q_in 602 (by decide +kernel) rfl
theorem ml_ru_146 : Cond.methodLink "HiredShades$Rules" 146 (q_y m_ru_push) ∈ q_T := q_in 606 (by decide +kernel) rfl
theorem ml_ru_150 : Cond.methodLink "HiredShades$Rules" 150 (q_y m_ru_pop) ∈ q_T := q_in 610 (by decide +kernel) rfl
theorem ml_ru_153 : Cond.methodLink "HiredShades$Rules" 153 (q_y m_ru_doSign) ∈ q_T := q_in 614 (by decide +kernel) rfl
theorem ml_ru_160 : Cond.methodLink "HiredShades$Rules" 160 (q_y m_ru_bounded) ∈ q_T := q_in 618 (by decide +kernel) rfl
theorem ml_ru_171 : Cond.methodLink "HiredShades$Rules" 171 (q_y m_jm_minL) ∈ q_T := q_in 623 (by decide +kernel) rfl
theorem ml_ru_174 : Cond.methodLink "HiredShades$Rules" 174 (q_y m_jm_maxL) ∈ q_T := q_in 626 (by decide +kernel) rfl
theorem ml_ru_164 : Cond.methodLink "HiredShades$Rules" 164 (q_y m_jm_floorDiv) ∈ q_T := q_in 629 (by decide +kernel) rfl
theorem ml_ru_157 : Cond.methodLink "HiredShades$Rules" 157 (q_y m_ru_doWord) ∈ q_T := q_in 632 (by decide +kernel) rfl
theorem ml_ru_140 : Cond.methodLink "HiredShades$Rules" 140 (q_y m_jm_max) ∈ q_T := q_in 636 (by decide +kernel) rfl
theorem ml_ru_135 : Cond.methodLink "HiredShades$Rules" 135 (q_y m_jm_min) ∈ q_T := q_in 639 (by decide +kernel) rfl
theorem ml_hs_78 : Cond.methodLink "HiredShades" 78 (q_y m_hi_clear) ∈ q_T := q_in 640 (by decide +kernel) rfl
theorem ml_lw_28 : Cond.methodLink "HiredShadesLaw" 28 (q_y m_hs_fault) ∈ q_T := q_in 642 (by decide +kernel) rfl
theorem ml_lw_33 : Cond.methodLink "HiredShadesLaw" 33 (q_y m_hs_has) ∈ q_T := q_in 646 (by decide +kernel) rfl
theorem ml_hs_96 : Cond.methodLink "HiredShades" 96 (q_y m_gd_allSightings) ∈ q_T := q_in 650 (by decide +kernel) rfl
theorem ml_hs_100 : Cond.methodLink "HiredShades" 100 (q_y m_hs_unhired) ∈ q_T := q_in 654 (by decide +kernel) rfl
theorem ml_hs_168 : Cond.methodLink "HiredShades" 168 (q_y m_hs_heldBy) ∈ q_T := q_in 658 (by decide +kernel) rfl
theorem ml_hs_277 : Cond.methodLink "HiredShades" 277 (q_y m_hi_held) ∈ q_T := q_in 662 (by decide +kernel) rfl
theorem ml_hs_103 : Cond.methodLink "HiredShades" 103 (q_y m_ji_bitCount) ∈ q_T := q_in 666 (by decide +kernel) rfl
theorem ml_lw_37 : Cond.methodLink "HiredShadesLaw" 37 (q_y m_hs_letter) ∈ q_T := q_in 672 (by decide +kernel) rfl
theorem ml_hs_112 : Cond.methodLink "HiredShades" 112 (q_y m_gd_isThere) ∈ q_T := q_in 676 (by decide +kernel) rfl
theorem ml_hs_120 : Cond.methodLink "HiredShades" 120 (q_y m_tp_letterOf) ∈ q_T := q_in 680 (by decide +kernel) rfl
theorem ml_lw_42 : Cond.methodLink "HiredShadesLaw" 42 (q_y m_hs_trait) ∈ q_T := q_in 683 (by decide +kernel) rfl
theorem ml_lw_46 : Cond.methodLink "HiredShadesLaw" 46 (q_y m_hs_seen) ∈ q_T := q_in 687 (by decide +kernel) rfl
theorem ml_hs_136 : Cond.methodLink "HiredShades" 136 (q_y m_hs_isSighting) ∈ q_T := q_in 691 (by decide +kernel) rfl
theorem ml_lw_51 : Cond.methodLink "HiredShadesLaw" 51 (q_y m_hs_far) ∈ q_T := q_in 695 (by decide +kernel) rfl
theorem ml_lw_55 : Cond.methodLink "HiredShadesLaw" 55 (q_y m_hs_pass) ∈ q_T := q_in 699 (by decide +kernel) rfl
theorem ml_hs_149 : Cond.methodLink "HiredShades" 149 (q_y m_hs_isShade) ∈ q_T := q_in 703 (by decide +kernel) rfl
theorem ml_lw_59 : Cond.methodLink "HiredShadesLaw" 59 (q_y m_hs_price) ∈ q_T := q_in 707 (by decide +kernel) rfl
theorem ml_lw_63 : Cond.methodLink "HiredShadesLaw" 63 (q_y m_hs_best) ∈ q_T := q_in 711 (by decide +kernel) rfl
theorem ml_hs_158 : Cond.methodLink "HiredShades" 158 (q_y m_hs_isBetter) ∈ q_T := q_in 715 (by decide +kernel) rfl
theorem ml_lw_68 : Cond.methodLink "HiredShadesLaw" 68 (q_y m_hs_whose) ∈ q_T := q_in 719 (by decide +kernel) rfl
theorem ml_hs_162 : Cond.methodLink "HiredShades" 162 (q_y m_hs_weightOf) ∈ q_T := q_in 723 (by decide +kernel) rfl
theorem ml_hs_165 : Cond.methodLink "HiredShades" 165 (q_y m_hs_unhiredOf) ∈ q_T := q_in 727 (by decide +kernel) rfl
theorem ml_hs_280 : Cond.methodLink "HiredShades" 280 (q_y m_gd_sightingsOf) ∈ q_T := q_in 731 (by decide +kernel) rfl
theorem ml_lw_72 : Cond.methodLink "HiredShadesLaw" 72 (q_y m_hs_canBe) ∈ q_T := q_in 735 (by decide +kernel) rfl
theorem ml_lw_76 : Cond.methodLink "HiredShadesLaw" 76 (q_y m_hs_chain) ∈ q_T := q_in 739 (by decide +kernel) rfl
theorem ml_hs_174 : Cond.methodLink "HiredShades" 174 (q_y m_ch_longest) ∈ q_T := q_in 743 (by decide +kernel) rfl
theorem ml_ch_26 : Cond.methodLink "HiredShades$Chains" 26 (q_y m_ch_longestAhead) ∈ q_T := q_in 747 (by decide +kernel) rfl
theorem ml_ch_30 : Cond.methodLink "HiredShades$Chains" 30 (q_y m_jm_max) ∈ q_T := q_in 751 (by decide +kernel) rfl
theorem ml_hs_178 : Cond.methodLink "HiredShades" 178 (q_y m_ch_firstLongest) ∈ q_T := q_in 752 (by decide +kernel) rfl
theorem ml_ch_36 : Cond.methodLink "HiredShades$Chains" 36 (q_y m_ch_longest) ∈ q_T := q_in 756 (by decide +kernel) rfl
theorem ml_hs_181 : Cond.methodLink "HiredShades" 181 (q_y m_hs_nthOf) ∈ q_T := q_in 757 (by decide +kernel) rfl
theorem ml_lw_80 : Cond.methodLink "HiredShadesLaw" 80 (q_y m_hs_shades) ∈ q_T := q_in 760 (by decide +kernel) rfl
theorem ml_hs_184 : Cond.methodLink "HiredShades" 184 (q_y m_hs_fewestShades) ∈ q_T := q_in 764 (by decide +kernel) rfl
theorem ml_lw_84 : Cond.methodLink "HiredShadesLaw" 84 (q_y m_hs_must) ∈ q_T := q_in 768 (by decide +kernel) rfl
theorem ml_lw_88 : Cond.methodLink "HiredShadesLaw" 88 (q_y m_hs_clash) ∈ q_T := q_in 772 (by decide +kernel) rfl
theorem ml_lw_92 : Cond.methodLink "HiredShadesLaw" 92 (q_y m_hs_could) ∈ q_T := q_in 776 (by decide +kernel) rfl
theorem ml_hs_187 : Cond.methodLink "HiredShades" 187 (q_y m_hs_isPlaceAndHour) ∈ q_T := q_in 780 (by decide +kernel) rfl
theorem ml_hs_190 : Cond.methodLink "HiredShades" 190 (q_y m_gd_near) ∈ q_T := q_in 784 (by decide +kernel) rfl
theorem ml_lw_97 : Cond.methodLink "HiredShadesLaw" 97 (q_y m_hs_ways) ∈ q_T := q_in 785 (by decide +kernel) rfl
theorem ml_hs_193 : Cond.methodLink "HiredShades" 193 (q_y m_cr_choose) ∈ q_T := q_in 789 (by decide +kernel) rfl
theorem ml_cr_24 : Cond.methodLink "HiredShades$Crews" 24 (q_y m_ji_bitCount) ∈ q_T := q_in 793 (by decide +kernel) rfl
theorem ml_hs_196 : Cond.methodLink "HiredShades" 196 (q_y m_cr_countWays) ∈ q_T := q_in 794 (by decide +kernel) rfl
theorem ml_cr_34 : Cond.methodLink "HiredShades$Crews" 34 (q_y m_cr_fillWithPersons) ∈ q_T := q_in 798 (by decide +kernel) rfl
theorem ml_cr_58 : Cond.methodLink "HiredShades$Crews" 58 (q_y m_gd_sightingsOf) ∈ q_T := q_in 802 (by decide +kernel) rfl
theorem ml_cr_64 : Cond.methodLink "HiredShades$Crews" 64 (q_y m_cr_chosenAmong) ∈ q_T := q_in 803 (by decide +kernel) rfl
theorem ml_cr_43 : Cond.methodLink "HiredShades$Crews" 43 (q_y m_cr_fillPart) ∈ q_T := q_in 807 (by decide +kernel) rfl
theorem ml_cr_74 : Cond.methodLink "HiredShades$Crews" 74 (q_y m_hi_held) ∈ q_T := q_in 811 (by decide +kernel) rfl
theorem ml_cr_47 : Cond.methodLink "HiredShades$Crews" 47 (q_y m_cr_sets) ∈ q_T := q_in 813 (by decide +kernel) rfl
theorem ml_cr_51 : Cond.methodLink "HiredShades$Crews" 51 (q_y m_cr_waysWithPart) ∈ q_T := q_in 817 (by decide +kernel) rfl
theorem ml_lw_101 : Cond.methodLink "HiredShadesLaw" 101 (q_y m_hs_hire) ∈ q_T := q_in 821 (by decide +kernel) rfl
theorem ml_hs_200 : Cond.methodLink "HiredShades" 200 (q_y m_hi_remember) ∈ q_T := q_in 825 (by decide +kernel) rfl
theorem ml_lw_106 : Cond.methodLink "HiredShadesLaw" 106 (q_y m_hs_undo) ∈ q_T := q_in 832 (by decide +kernel) rfl
theorem ml_hs_203 : Cond.methodLink "HiredShades" 203 (q_y m_hi_takeBack) ∈ q_T := q_in 836 (by decide +kernel) rfl
theorem ml_lw_111 : Cond.methodLink "HiredShadesLaw" 111 (q_y m_hs_crew) ∈ q_T := q_in 840 (by decide +kernel) rfl
theorem ml_hs_207 : Cond.methodLink "HiredShades" 207 (q_y m_hs_findCrew) ∈ q_T := q_in 844 (by decide +kernel) rfl
theorem ml_hs_222 : Cond.methodLink "HiredShades" 222 (q_y m_cr_findCheapest) ∈ q_T := q_in 848 (by decide +kernel) rfl
theorem ml_cr_67 : Cond.methodLink "HiredShades$Crews" 67 (q_y m_cr_cheapestWithPart) ∈ q_T := q_in 852 (by decide +kernel) rfl
theorem ml_lw_115 : Cond.methodLink "HiredShadesLaw" 115 (q_y m_hs_take) ∈ q_T := q_in 856 (by decide +kernel) rfl
theorem ml_lw_119 : Cond.methodLink "HiredShadesLaw" 119 (q_y m_hs_crowd) ∈ q_T := q_in 860 (by decide +kernel) rfl
theorem ml_hs_226 : Cond.methodLink "HiredShades" 226 (q_y m_hs_could) ∈ q_T := q_in 864 (by decide +kernel) rfl
theorem ml_hs_230 : Cond.methodLink "HiredShades" 230 (q_y m_hs_cheapestOf) ∈ q_T := q_in 865 (by decide +kernel) rfl
theorem ml_lw_124 : Cond.methodLink "HiredShadesLaw" 124 (q_y m_hs_shade) ∈ q_T := q_in 869 (by decide +kernel) rfl
theorem ml_hs_236 : Cond.methodLink "HiredShades" 236 (q_y m_hs_pricesOf) ∈ q_T := q_in 873 (by decide +kernel) rfl
theorem ml_hs_239 : Cond.methodLink "HiredShades" 239 (q_y m_gd_firstByHour) ∈ q_T := q_in 877 (by decide +kernel) rfl
theorem ml_hs_242 : Cond.methodLink "HiredShades" 242 (q_y m_gd_hoursAlong) ∈ q_T := q_in 881 (by decide +kernel) rfl
theorem ml_gd_92 : Cond.methodLink "HiredShades$Guild" 92 (q_y m_gd_firstByHour) ∈ q_T := q_in 885 (by decide +kernel) rfl
theorem ml_hs_245 : Cond.methodLink "HiredShades" 245 (q_y m_hs_leastPassOf) ∈ q_T := q_in 886 (by decide +kernel) rfl
theorem ml_lw_128 : Cond.methodLink "HiredShadesLaw" 128 (q_y m_hs_seed) ∈ q_T := q_in 890 (by decide +kernel) rfl
theorem ml_lw_132 : Cond.methodLink "HiredShadesLaw" 132 (q_y m_hs_days) ∈ q_T := q_in 894 (by decide +kernel) rfl
theorem ml_hs_249 : Cond.methodLink "HiredShades" 249 (q_y m_hs_drawOfThousand) ∈ q_T := q_in 899 (by decide +kernel) rfl
theorem ml_hs_252 : Cond.methodLink "HiredShades" 252 (q_y m_gd_titheOf) ∈ q_T := q_in 906 (by decide +kernel) rfl
theorem ml_lw_136 : Cond.methodLink "HiredShadesLaw" 136 (q_y m_hs_average) ∈ q_T := q_in 910 (by decide +kernel) rfl
theorem ml_lw_140 : Cond.methodLink "HiredShadesLaw" 140 (q_y m_hs_image) ∈ q_T := q_in 914 (by decide +kernel) rfl
theorem ml_hs_261 : Cond.methodLink "HiredShades" 261 (q_y m_hs_checkByte) ∈ q_T := q_in 918 (by decide +kernel) rfl
theorem ml_lw_144 : Cond.methodLink "HiredShadesLaw" 144 (q_y m_hs_octet) ∈ q_T := q_in 921 (by decide +kernel) rfl
theorem ml_lw_148 : Cond.methodLink "HiredShadesLaw" 148 (q_y m_hs_on) ∈ q_T := q_in 925 (by decide +kernel) rfl
theorem ml_hs_268 : Cond.methodLink "HiredShades" 268 (q_y m_hs_isImage) ∈ q_T := q_in 929 (by decide +kernel) rfl
theorem ml_hs_274 : Cond.methodLink "HiredShades" 274 (q_y m_hs_meetsAllTold) ∈ q_T := q_in 933 (by decide +kernel) rfl
theorem ml_lw_12 : Cond.methodLink "HiredShadesLaw" 12 (q_y m_mo_init) ∈ q_T := q_in 939 (by decide +kernel) rfl
theorem ml_lw_17 : Cond.methodLink "HiredShadesLaw" 17 (q_y m_mo_feed) ∈ q_T := q_in 1174 (by decide +kernel) rfl
theorem ml_lw_22 : Cond.methodLink "HiredShadesLaw" 22 (q_y m_mo_end) ∈ q_T := q_in 1178 (by decide +kernel) rfl
theorem ml_lw_27 : Cond.methodLink "HiredShadesLaw" 27 (q_y m_mo_guild) ∈ q_T := q_in 1182 (by decide +kernel) rfl
theorem ml_mo_313 : Cond.methodLink "HiredShadesModel" 313 (q_y m_mo_traitsTold) ∈ q_T := q_in 1186 (by decide +kernel) rfl
theorem ml_mo_248 : Cond.methodLink "HiredShadesModel" 248 (q_y m_mo_asks) ∈ q_T := q_in 1190 (by decide +kernel) rfl
theorem ml_mo_212 : Cond.methodLink "HiredShadesModel" 212 (q_y m_mo_takes) ∈ q_T := q_in 1194 (by decide +kernel) rfl
theorem ml_mo_208 : Cond.methodLink "HiredShadesModel" 208 (q_y m_mo_isHere) ∈ q_T := q_in 1198 (by decide +kernel) rfl
theorem ml_mo_197 : Cond.methodLink "HiredShadesModel" 197 (q_y m_mo_look) ∈ q_T := q_in 1202 (by decide +kernel) rfl
theorem ml_mo_201 : Cond.methodLink "HiredShadesModel" 201 (q_y m_mo_isLetter) ∈ q_T := q_in 1206 (by decide +kernel) rfl
theorem ml_mo_215 : Cond.methodLink "HiredShadesModel" 215 (q_y m_mo_fail) ∈ q_T := q_in 1209 (by decide +kernel) rfl
theorem ml_mo_252 : Cond.methodLink "HiredShadesModel" 252 (q_y m_mo_newName) ∈ q_T := q_in 1213 (by decide +kernel) rfl
theorem ml_mo_240 : Cond.methodLink "HiredShadesModel" 240 (q_y m_mo_name) ∈ q_T := q_in 1217 (by decide +kernel) rfl
theorem ml_mo_229 : Cond.methodLink "HiredShadesModel" 229 (q_y m_mo_isOwnHere) ∈ q_T := q_in 1221 (by decide +kernel) rfl
theorem ml_mo_244 : Cond.methodLink "HiredShadesModel" 244 (q_y m_mo_nameOf) ∈ q_T := q_in 1227 (by decide +kernel) rfl
theorem ml_mo_256 : Cond.methodLink "HiredShadesModel" 256 (q_y m_mo_number) ∈ q_T := q_in 1231 (by decide +kernel) rfl
theorem ml_mo_222 : Cond.methodLink "HiredShadesModel" 222 (q_y m_mo_isDigit) ∈ q_T := q_in 1235 (by decide +kernel) rfl
theorem ml_mo_225 : Cond.methodLink "HiredShadesModel" 225 (q_y m_mo_isIn) ∈ q_T := q_in 1238 (by decide +kernel) rfl
theorem ml_mo_219 : Cond.methodLink "HiredShadesModel" 219 (q_y m_mo_takesSign) ∈ q_T := q_in 1241 (by decide +kernel) rfl
theorem ml_mo_260 : Cond.methodLink "HiredShadesModel" 260 (q_y m_mo_asksSign) ∈ q_T := q_in 1245 (by decide +kernel) rfl
theorem ml_mo_316 : Cond.methodLink "HiredShadesModel" 316 (q_y m_mo_statementTold) ∈ q_T := q_in 1249 (by decide +kernel) rfl
theorem ml_mo_292 : Cond.methodLink "HiredShadesModel" 292 (q_y m_mo_personTold) ∈ q_T := q_in 1253 (by decide +kernel) rfl
theorem ml_mo_267 : Cond.methodLink "HiredShadesModel" 267 (q_y m_mo_isFull) ∈ q_T := q_in 1257 (by decide +kernel) rfl
theorem ml_mo_295 : Cond.methodLink "HiredShadesModel" 295 (q_y m_mo_shadeTold) ∈ q_T := q_in 1261 (by decide +kernel) rfl
theorem ml_mo_298 : Cond.methodLink "HiredShadesModel" 298 (q_y m_mo_placeTold) ∈ q_T := q_in 1265 (by decide +kernel) rfl
theorem ml_mo_301 : Cond.methodLink "HiredShadesModel" 301 (q_y m_mo_roadTold) ∈ q_T := q_in 1269 (by decide +kernel) rfl
theorem ml_mo_271 : Cond.methodLink "HiredShadesModel" 271 (q_y m_mo_oneOf) ∈ q_T := q_in 1273 (by decide +kernel) rfl
theorem ml_mo_304 : Cond.methodLink "HiredShadesModel" 304 (q_y m_mo_seenTold) ∈ q_T := q_in 1277 (by decide +kernel) rfl
theorem ml_mo_307 : Cond.methodLink "HiredShadesModel" 307 (q_y m_mo_priceTold) ∈ q_T := q_in 1281 (by decide +kernel) rfl
theorem ml_mo_286 : Cond.methodLink "HiredShadesModel" 286 (q_y m_mo_sumsTold) ∈ q_T := q_in 1285 (by decide +kernel) rfl
theorem ml_mo_368 : Cond.methodLink "HiredShadesModel" 368 (q_y m_mo_onePart) ∈ q_T := q_in 1289 (by decide +kernel) rfl
theorem ml_mo_356 : Cond.methodLink "HiredShadesModel" 356 (q_y m_mo_opens) ∈ q_T := q_in 1293 (by decide +kernel) rfl
theorem ml_mo_347 : Cond.methodLink "HiredShadesModel" 347 (q_y m_mo_code) ∈ q_T := q_in 1297 (by decide +kernel) rfl
theorem ml_mo_371 : Cond.methodLink "HiredShadesModel" 371 (q_y m_mo_goesOn) ∈ q_T := q_in 1301 (by decide +kernel) rfl
theorem ml_mo_359 : Cond.methodLink "HiredShadesModel" 359 (q_y m_mo_mark) ∈ q_T := q_in 1305 (by decide +kernel) rfl
theorem ml_mo_350 : Cond.methodLink "HiredShadesModel" 350 (q_y m_mo_isMark) ∈ q_T := q_in 1309 (by decide +kernel) rfl
theorem ml_mo_362 : Cond.methodLink "HiredShadesModel" 362 (q_y m_mo_dropsToMark) ∈ q_T := q_in 1313 (by decide +kernel) rfl
theorem ml_mo_353 : Cond.methodLink "HiredShadesModel" 353 (q_y m_mo_drops) ∈ q_T := q_in 1317 (by decide +kernel) rfl
theorem ml_mo_365 : Cond.methodLink "HiredShadesModel" 365 (q_y m_mo_isOn) ∈ q_T := q_in 1321 (by decide +kernel) rfl
theorem ml_mo_289 : Cond.methodLink "HiredShadesModel" 289 (q_y m_mo_test) ∈ q_T := q_in 1325 (by decide +kernel) rfl
theorem ml_mo_374 : Cond.methodLink "HiredShadesModel" 374 (q_y m_mo_fact) ∈ q_T := q_in 1329 (by decide +kernel) rfl
theorem ml_mo_377 : Cond.methodLink "HiredShadesModel" 377 (q_y m_mo_dropsNots) ∈ q_T := q_in 1333 (by decide +kernel) rfl
theorem ml_mo_380 : Cond.methodLink "HiredShadesModel" 380 (q_y m_mo_goesOnTest) ∈ q_T := q_in 1337 (by decide +kernel) rfl
theorem ml_mo_383 : Cond.methodLink "HiredShadesModel" 383 (q_y m_mo_hasSquare) ∈ q_T := q_in 1341 (by decide +kernel) rfl
theorem ml_mo_322 : Cond.methodLink "HiredShadesModel" 322 (q_y m_mo_stands) ∈ q_T := q_in 1345 (by decide +kernel) rfl
theorem ml_mo_328 : Cond.methodLink "HiredShadesModel" 328 (q_y m_mo_seenMany) ∈ q_T := q_in 1349 (by decide +kernel) rfl
theorem ml_mo_331 : Cond.methodLink "HiredShadesModel" 331 (q_y m_mo_placeOf) ∈ q_T := q_in 1353 (by decide +kernel) rfl
theorem ml_mo_334 : Cond.methodLink "HiredShadesModel" 334 (q_y m_mo_hourOf) ∈ q_T := q_in 1357 (by decide +kernel) rfl
theorem ml_mo_337 : Cond.methodLink "HiredShadesModel" 337 (q_y m_mo_areFarEnough) ∈ q_T := q_in 1361 (by decide +kernel) rfl
theorem ml_mo_344 : Cond.methodLink "HiredShadesModel" 344 (q_y m_mo_passes) ∈ q_T := q_in 1365 (by decide +kernel) rfl
theorem ml_mo_419 : Cond.methodLink "HiredShadesModel" 419 (q_y m_mo_shadeMany) ∈ q_T := q_in 1369 (by decide +kernel) rfl
theorem ml_mo_425 : Cond.methodLink "HiredShadesModel" 425 (q_y m_mo_personOf) ∈ q_T := q_in 1373 (by decide +kernel) rfl
theorem ml_mo_428 : Cond.methodLink "HiredShadesModel" 428 (q_y m_mo_priceNow) ∈ q_T := q_in 1377 (by decide +kernel) rfl
theorem ml_mo_431 : Cond.methodLink "HiredShadesModel" 431 (q_y m_mo_told) ∈ q_T := q_in 1381 (by decide +kernel) rfl
theorem ml_mo_397 : Cond.methodLink "HiredShadesModel" 397 (q_y m_mo_puts) ∈ q_T := q_in 1385 (by decide +kernel) rfl
theorem ml_mo_413 : Cond.methodLink "HiredShadesModel" 413 (q_y m_mo_asked) ∈ q_T := q_in 1393 (by decide +kernel) rfl
theorem ml_mo_416 : Cond.methodLink "HiredShadesModel" 416 (q_y m_mo_joins) ∈ q_T := q_in 1397 (by decide +kernel) rfl
theorem ml_mo_393 : Cond.methodLink "HiredShadesModel" 393 (q_y m_mo_clip) ∈ q_T := q_in 1401 (by decide +kernel) rfl
theorem ml_mo_401 : Cond.methodLink "HiredShadesModel" 401 (q_y m_mo_floor) ∈ q_T := q_in 1406 (by decide +kernel) rfl
theorem ml_lw_32 : Cond.methodLink "HiredShadesLaw" 32 (q_y m_mo_fault) ∈ q_T := q_in 1410 (by decide +kernel) rfl
theorem ml_lw_36 : Cond.methodLink "HiredShadesLaw" 36 (q_y m_mo_has) ∈ q_T := q_in 1414 (by decide +kernel) rfl
theorem ml_mo_422 : Cond.methodLink "HiredShadesModel" 422 (q_y m_mo_persons) ∈ q_T := q_in 1418 (by decide +kernel) rfl
theorem ml_mo_440 : Cond.methodLink "HiredShadesModel" 440 (q_y m_mo_hiredBy) ∈ q_T := q_in 1422 (by decide +kernel) rfl
theorem ml_mo_443 : Cond.methodLink "HiredShadesModel" 443 (q_y m_mo_bits) ∈ q_T := q_in 1426 (by decide +kernel) rfl
theorem ml_lw_41 : Cond.methodLink "HiredShadesLaw" 41 (q_y m_mo_letter) ∈ q_T := q_in 1429 (by decide +kernel) rfl
theorem ml_lw_45 : Cond.methodLink "HiredShadesLaw" 45 (q_y m_mo_trait) ∈ q_T := q_in 1435 (by decide +kernel) rfl
theorem ml_mo_450 : Cond.methodLink "HiredShadesModel" 450 (q_y m_mo_isPerson) ∈ q_T := q_in 1439 (by decide +kernel) rfl
theorem ml_mo_453 : Cond.methodLink "HiredShadesModel" 453 (q_y m_mo_isShade) ∈ q_T := q_in 1443 (by decide +kernel) rfl
theorem ml_lw_50 : Cond.methodLink "HiredShadesLaw" 50 (q_y m_mo_seen) ∈ q_T := q_in 1447 (by decide +kernel) rfl
theorem ml_mo_456 : Cond.methodLink "HiredShadesModel" 456 (q_y m_mo_isSeen) ∈ q_T := q_in 1451 (by decide +kernel) rfl
theorem ml_lw_54 : Cond.methodLink "HiredShadesLaw" 54 (q_y m_mo_far) ∈ q_T := q_in 1455 (by decide +kernel) rfl
theorem ml_mo_459 : Cond.methodLink "HiredShadesModel" 459 (q_y m_mo_isPlaceHere) ∈ q_T := q_in 1459 (by decide +kernel) rfl
theorem ml_lw_58 : Cond.methodLink "HiredShadesLaw" 58 (q_y m_mo_pass) ∈ q_T := q_in 1463 (by decide +kernel) rfl
theorem ml_lw_62 : Cond.methodLink "HiredShadesLaw" 62 (q_y m_mo_price) ∈ q_T := q_in 1467 (by decide +kernel) rfl
theorem ml_lw_67 : Cond.methodLink "HiredShadesLaw" 67 (q_y m_mo_best) ∈ q_T := q_in 1471 (by decide +kernel) rfl
theorem ml_lw_71 : Cond.methodLink "HiredShadesLaw" 71 (q_y m_mo_whose) ∈ q_T := q_in 1475 (by decide +kernel) rfl
theorem ml_mo_468 : Cond.methodLink "HiredShadesModel" 468 (q_y m_mo_weightOf) ∈ q_T := q_in 1479 (by decide +kernel) rfl
theorem ml_mo_462 : Cond.methodLink "HiredShadesModel" 462 (q_y m_mo_ownOf) ∈ q_T := q_in 1483 (by decide +kernel) rfl
theorem ml_mo_465 : Cond.methodLink "HiredShadesModel" 465 (q_y m_mo_canBeAll) ∈ q_T := q_in 1487 (by decide +kernel) rfl
theorem ml_lw_79 : Cond.methodLink "HiredShadesLaw" 79 (q_y m_mo_chain) ∈ q_T := q_in 1491 (by decide +kernel) rfl
theorem ml_mo_477 : Cond.methodLink "HiredShadesModel" 477 (q_y m_mo_chainOf) ∈ q_T := q_in 1495 (by decide +kernel) rfl
theorem ml_mo_471 : Cond.methodLink "HiredShadesModel" 471 (q_y m_mo_orders) ∈ q_T := q_in 1499 (by decide +kernel) rfl
theorem ml_mo_474 : Cond.methodLink "HiredShadesModel" 474 (q_y m_mo_longestOf) ∈ q_T := q_in 1503 (by decide +kernel) rfl
theorem ml_mo_480 : Cond.methodLink "HiredShadesModel" 480 (q_y m_mo_bitAt) ∈ q_T := q_in 1507 (by decide +kernel) rfl
theorem ml_lw_83 : Cond.methodLink "HiredShadesLaw" 83 (q_y m_mo_shades) ∈ q_T := q_in 1510 (by decide +kernel) rfl
theorem ml_mo_483 : Cond.methodLink "HiredShadesModel" 483 (q_y m_mo_fewestOf) ∈ q_T := q_in 1514 (by decide +kernel) rfl
theorem ml_lw_87 : Cond.methodLink "HiredShadesLaw" 87 (q_y m_mo_must) ∈ q_T := q_in 1518 (by decide +kernel) rfl
theorem ml_lw_75 : Cond.methodLink "HiredShadesLaw" 75 (q_y m_mo_canBe) ∈ q_T := q_in 1522 (by decide +kernel) rfl
theorem ml_lw_91 : Cond.methodLink "HiredShadesLaw" 91 (q_y m_mo_clash) ∈ q_T := q_in 1526 (by decide +kernel) rfl
theorem ml_lw_96 : Cond.methodLink "HiredShadesLaw" 96 (q_y m_mo_could) ∈ q_T := q_in 1530 (by decide +kernel) rfl
theorem ml_mo_488 : Cond.methodLink "HiredShadesModel" 488 (q_y m_mo_couldBe) ∈ q_T := q_in 1535 (by decide +kernel) rfl
theorem ml_lw_100 : Cond.methodLink "HiredShadesLaw" 100 (q_y m_mo_ways) ∈ q_T := q_in 1539 (by decide +kernel) rfl
theorem ml_mo_501 : Cond.methodLink "HiredShadesModel" 501 (q_y m_mo_opens1) ∈ q_T := q_in 1543 (by decide +kernel) rfl
theorem ml_mo_494 : Cond.methodLink "HiredShadesModel" 494 (q_y m_mo_hasOf) ∈ q_T := q_in 1547 (by decide +kernel) rfl
theorem ml_mo_503 : Cond.methodLink "HiredShadesModel" 503 (q_y m_mo_isNext) ∈ q_T := q_in 1551 (by decide +kernel) rfl
theorem ml_mo_497 : Cond.methodLink "HiredShadesModel" 497 (q_y m_mo_canHave) ∈ q_T := q_in 1555 (by decide +kernel) rfl
theorem ml_lw_105 : Cond.methodLink "HiredShadesLaw" 105 (q_y m_mo_hire) ∈ q_T := q_in 1559 (by decide +kernel) rfl
theorem ml_mo_506 : Cond.methodLink "HiredShadesModel" 506 (q_y m_mo_keepsHires) ∈ q_T := q_in 1563 (by decide +kernel) rfl
theorem ml_lw_110 : Cond.methodLink "HiredShadesLaw" 110 (q_y m_mo_undo) ∈ q_T := q_in 1567 (by decide +kernel) rfl
theorem ml_lw_114 : Cond.methodLink "HiredShadesLaw" 114 (q_y m_mo_crew) ∈ q_T := q_in 1571 (by decide +kernel) rfl
theorem ml_mo_512 : Cond.methodLink "HiredShadesModel" 512 (q_y m_mo_crewFor) ∈ q_T := q_in 1575 (by decide +kernel) rfl
theorem ml_mo_509 : Cond.methodLink "HiredShadesModel" 509 (q_y m_mo_crewOf) ∈ q_T := q_in 1579 (by decide +kernel) rfl
theorem ml_lw_118 : Cond.methodLink "HiredShadesLaw" 118 (q_y m_mo_take) ∈ q_T := q_in 1583 (by decide +kernel) rfl
theorem ml_lw_123 : Cond.methodLink "HiredShadesLaw" 123 (q_y m_mo_crowd) ∈ q_T := q_in 1587 (by decide +kernel) rfl
theorem ml_lw_127 : Cond.methodLink "HiredShadesLaw" 127 (q_y m_mo_shade) ∈ q_T := q_in 1591 (by decide +kernel) rfl
theorem ml_lw_131 : Cond.methodLink "HiredShadesLaw" 131 (q_y m_mo_seed) ∈ q_T := q_in 1595 (by decide +kernel) rfl
theorem ml_lw_135 : Cond.methodLink "HiredShadesLaw" 135 (q_y m_mo_days) ∈ q_T := q_in 1599 (by decide +kernel) rfl
theorem ml_mo_526 : Cond.methodLink "HiredShadesModel" 526 (q_y m_mo_drawOf) ∈ q_T := q_in 1605 (by decide +kernel) rfl
theorem ml_mo_529 : Cond.methodLink "HiredShadesModel" 529 (q_y m_mo_priceAt) ∈ q_T := q_in 1613 (by decide +kernel) rfl
theorem ml_lw_139 : Cond.methodLink "HiredShadesLaw" 139 (q_y m_mo_average) ∈ q_T := q_in 1617 (by decide +kernel) rfl
theorem ml_lw_143 : Cond.methodLink "HiredShadesLaw" 143 (q_y m_mo_image) ∈ q_T := q_in 1621 (by decide +kernel) rfl
theorem ml_mo_535 : Cond.methodLink "HiredShadesModel" 535 (q_y m_mo_checked) ∈ q_T := q_in 1625 (by decide +kernel) rfl
theorem ml_lw_147 : Cond.methodLink "HiredShadesLaw" 147 (q_y m_mo_octet) ∈ q_T := q_in 1628 (by decide +kernel) rfl
theorem ml_lw_151 : Cond.methodLink "HiredShadesLaw" 151 (q_y m_mo_on) ∈ q_T := q_in 1632 (by decide +kernel) rfl
theorem co_ru_167 : Cond.constantLong "HiredShades$Rules" 167 (-1000000 : Int64) ∈ q_T := q_in 621 (by decide +kernel) rfl
theorem co_ru_169 : Cond.constantLong "HiredShades$Rules" 169 (1000000 : Int64) ∈ q_T := q_in 622 (by decide +kernel) rfl
theorem co_ji_265 : Cond.constant "java/lang/Integer" 265 (1431655765 : Int32) ∈ q_T := q_in 669 (by decide +kernel) rfl
theorem co_ji_266 : Cond.constant "java/lang/Integer" 266 (858993459 : Int32) ∈ q_T := q_in 670 (by decide +kernel) rfl
theorem co_ji_267 : Cond.constant "java/lang/Integer" 267 (252645135 : Int32) ∈ q_T := q_in 671 (by decide +kernel) rfl
theorem co_cr_70 : Cond.constant "HiredShades$Crews" 70 (78125 : Int32) ∈ q_T := q_in 812 (by decide +kernel) rfl
theorem co_hs_248 : Cond.constant "HiredShades" 248 (-1000000000 : Int32) ∈ q_T := q_in 898 (by decide +kernel) rfl
theorem co_hs_255 : Cond.constantLong "HiredShades" 255 (1103515245 : Int64) ∈ q_T := q_in 903 (by decide +kernel) rfl
theorem co_hs_257 : Cond.constantLong "HiredShades" 257 (12345 : Int64) ∈ q_T := q_in 904 (by decide +kernel) rfl
theorem co_hs_259 : Cond.constantLong "HiredShades" 259 (2147483648 : Int64) ∈ q_T := q_in 905 (by decide +kernel) rfl
theorem co_mo_236 : Cond.constantLong "HiredShadesModel" 236 (27 : Int64) ∈ q_T := q_in 1225 (by decide +kernel) rfl
theorem co_mo_238 : Cond.constantLong "HiredShadesModel" 238 (97 : Int64) ∈ q_T := q_in 1226 (by decide +kernel) rfl
theorem co_mo_405 : Cond.constantLong "HiredShadesModel" 405 (7 : Int64) ∈ q_T := q_in 1389 (by decide +kernel) rfl
theorem co_mo_407 : Cond.constantLong "HiredShadesModel" 407 (10 : Int64) ∈ q_T := q_in 1390 (by decide +kernel) rfl
theorem co_mo_409 : Cond.constantLong "HiredShadesModel" 409 (18 : Int64) ∈ q_T := q_in 1391 (by decide +kernel) rfl
theorem co_mo_411 : Cond.constantLong "HiredShadesModel" 411 (19 : Int64) ∈ q_T := q_in 1392 (by decide +kernel) rfl
theorem co_mo_386 : Cond.constantLong "HiredShadesModel" 386 (1000000 : Int64) ∈ q_T := q_in 1404 (by decide +kernel) rfl
theorem co_mo_388 : Cond.constantLong "HiredShadesModel" 388 (-1000000 : Int64) ∈ q_T := q_in 1405 (by decide +kernel) rfl
theorem co_mo_435 : Cond.constantLong "HiredShadesModel" 435 (999 : Int64) ∈ q_T := q_in 1409 (by decide +kernel) rfl
theorem co_mo_446 : Cond.constantLong "HiredShadesModel" 446 (3 : Int64) ∈ q_T := q_in 1433 (by decide +kernel) rfl
theorem co_mo_448 : Cond.constantLong "HiredShadesModel" 448 (5 : Int64) ∈ q_T := q_in 1434 (by decide +kernel) rfl
theorem co_mo_486 : Cond.constantLong "HiredShadesModel" 486 (99 : Int64) ∈ q_T := q_in 1534 (by decide +kernel) rfl
theorem co_mo_523 : Cond.constantLong "HiredShadesModel" 523 (100 : Int64) ∈ q_T := q_in 1603 (by decide +kernel) rfl
theorem co_mo_525 : Cond.constant "HiredShadesModel" 525 (-1000000000 : Int32) ∈ q_T := q_in 1604 (by decide +kernel) rfl
theorem co_mo_515 : Cond.constantLong "HiredShadesModel" 515 (1103515245 : Int64) ∈ q_T := q_in 1609 (by decide +kernel) rfl
theorem co_mo_517 : Cond.constantLong "HiredShadesModel" 517 (12345 : Int64) ∈ q_T := q_in 1610 (by decide +kernel) rfl
theorem co_mo_519 : Cond.constantLong "HiredShadesModel" 519 (2147483648 : Int64) ∈ q_T := q_in 1611 (by decide +kernel) rfl
theorem co_mo_521 : Cond.constantLong "HiredShadesModel" 521 (64 : Int64) ∈ q_T := q_in 1612 (by decide +kernel) rfl
/-! cells -/
def q_ce (N : Nat) (q : Int) (a : Nat) (n : Int) : Prop := 0 ≤ q ∧ q < (N : Int) ∧ q_kn q = (a, n)
def q_rr (rf : Int → Int → Int) (q k r : Int) : Prop := rf q k = r ∧ 0 ≤ r
abbrev Zg (g h : Int) : q_Z := (274, RF g h, 0, 0)
theorem is_hs : q_ce 274 0 7 10 := ⟨by decide, by decide, rfl⟩
theorem is_tp : q_ce 274 1 6 9 := ⟨by decide, by decide, rfl⟩
theorem is_tp_bytes : q_ce 274 2 20 1600 := ⟨by decide, by decide, rfl⟩
theorem is_gr : q_ce 274 3 3 3 := ⟨by decide, by decide, rfl⟩
theorem is_ru : q_ce 274 4 5 8 := ⟨by decide, by decide, rfl⟩
theorem is_ru_code : q_ce 274 5 20 1600 := ⟨by decide, by decide, rfl⟩
theorem is_ru_sumStart : q_ce 274 6 20 7 := ⟨by decide, by decide, rfl⟩
theorem is_ru_testStart : q_ce 274 7 20 6 := ⟨by decide, by decide, rfl⟩
theorem is_ru_known : q_ce 274 8 20 25 := ⟨by decide, by decide, rfl⟩
theorem is_ru_stack : q_ce 274 9 20 64 := ⟨by decide, by decide, rfl⟩
theorem is_hi : q_ce 274 10 4 4 := ⟨by decide, by decide, rfl⟩
theorem is_hi_shadeOf : q_ce 274 11 20 24 := ⟨by decide, by decide, rfl⟩
theorem is_hi_ahead : q_ce 274 12 23 30 := ⟨by decide, by decide, rfl⟩
theorem is_ch : q_ce 274 43 0 1 := ⟨by decide, by decide, rfl⟩
theorem is_ch_lengthTo : q_ce 274 44 20 24 := ⟨by decide, by decide, rfl⟩
theorem is_cr : q_ce 274 45 1 6 := ⟨by decide, by decide, rfl⟩
theorem is_cr_chosen : q_ce 274 46 20 8 := ⟨by decide, by decide, rfl⟩
theorem is_cr_crewOf : q_ce 274 47 20 7 := ⟨by decide, by decide, rfl⟩
theorem is_cr_table : q_ce 274 48 20 256 := ⟨by decide, by decide, rfl⟩
theorem is_cr_part : q_ce 274 49 20 256 := ⟨by decide, by decide, rfl⟩
theorem is_hs_image : q_ce 274 50 20 25 := ⟨by decide, by decide, rfl⟩
theorem is_mo : q_ce 274 219 8 76 := ⟨by decide, by decide, rfl⟩
theorem is_mo_tape : q_ce 274 220 20 1600 := ⟨by decide, by decide, rfl⟩
theorem is_mo_traitsWord : q_ce 274 221 22 6 := ⟨by decide, by decide, rfl⟩
theorem is_mo_personWord : q_ce 274 222 22 6 := ⟨by decide, by decide, rfl⟩
theorem is_mo_shadeWord : q_ce 274 223 22 5 := ⟨by decide, by decide, rfl⟩
theorem is_mo_feeWord : q_ce 274 224 22 3 := ⟨by decide, by decide, rfl⟩
theorem is_mo_fakesWord : q_ce 274 225 22 5 := ⟨by decide, by decide, rfl⟩
theorem is_mo_placeWord : q_ce 274 226 22 5 := ⟨by decide, by decide, rfl⟩
theorem is_mo_roadWord : q_ce 274 227 22 4 := ⟨by decide, by decide, rfl⟩
theorem is_mo_seenWord : q_ce 274 228 22 4 := ⟨by decide, by decide, rfl⟩
theorem is_mo_atWord : q_ce 274 229 22 2 := ⟨by decide, by decide, rfl⟩
theorem is_mo_hourWord : q_ce 274 230 22 4 := ⟨by decide, by decide, rfl⟩
theorem is_mo_lightWord : q_ce 274 231 22 5 := ⟨by decide, by decide, rfl⟩
theorem is_mo_rainWord : q_ce 274 232 22 4 := ⟨by decide, by decide, rfl⟩
theorem is_mo_dryWord : q_ce 274 233 22 3 := ⟨by decide, by decide, rfl⟩
theorem is_mo_priceWord : q_ce 274 234 22 5 := ⟨by decide, by decide, rfl⟩
theorem is_mo_whenWord : q_ce 274 235 22 4 := ⟨by decide, by decide, rfl⟩
theorem is_mo_titheWord : q_ce 274 236 22 5 := ⟨by decide, by decide, rfl⟩
theorem is_mo_orWord : q_ce 274 237 22 2 := ⟨by decide, by decide, rfl⟩
theorem is_mo_andWord : q_ce 274 238 22 3 := ⟨by decide, by decide, rfl⟩
theorem is_mo_notWord : q_ce 274 239 22 3 := ⟨by decide, by decide, rfl⟩
theorem is_mo_allWord : q_ce 274 240 22 3 := ⟨by decide, by decide, rfl⟩
theorem is_mo_wetWord : q_ce 274 241 22 3 := ⟨by decide, by decide, rfl⟩
theorem is_mo_unlikeWord : q_ce 274 242 22 6 := ⟨by decide, by decide, rfl⟩
theorem is_mo_passWord : q_ce 274 243 22 4 := ⟨by decide, by decide, rfl⟩
theorem is_mo_minWord : q_ce 274 244 22 3 := ⟨by decide, by decide, rfl⟩
theorem is_mo_maxWord : q_ce 274 245 22 3 := ⟨by decide, by decide, rfl⟩
theorem is_mo_many : q_ce 274 246 20 14 := ⟨by decide, by decide, rfl⟩
theorem is_mo_names : q_ce 274 247 21 64 := ⟨by decide, by decide, rfl⟩
theorem is_mo_shows : q_ce 274 248 20 24 := ⟨by decide, by decide, rfl⟩
theorem is_mo_personHas : q_ce 274 249 20 96 := ⟨by decide, by decide, rfl⟩
theorem is_mo_shadeHas : q_ce 274 250 20 60 := ⟨by decide, by decide, rfl⟩
theorem is_mo_fakes : q_ce 274 251 20 60 := ⟨by decide, by decide, rfl⟩
theorem is_mo_fees : q_ce 274 252 20 10 := ⟨by decide, by decide, rfl⟩
theorem is_mo_roads : q_ce 274 253 20 128 := ⟨by decide, by decide, rfl⟩
theorem is_mo_sighted : q_ce 274 254 20 240 := ⟨by decide, by decide, rfl⟩
theorem is_mo_codes : q_ce 274 255 20 3200 := ⟨by decide, by decide, rfl⟩
theorem is_mo_wait : q_ce 274 256 20 1700 := ⟨by decide, by decide, rfl⟩
theorem is_mo_sumFrom : q_ce 274 257 20 12 := ⟨by decide, by decide, rfl⟩
theorem is_mo_sumEnd : q_ce 274 258 20 12 := ⟨by decide, by decide, rfl⟩
theorem is_mo_testEnd : q_ce 274 259 20 12 := ⟨by decide, by decide, rfl⟩
theorem is_mo_pile : q_ce 274 260 21 1700 := ⟨by decide, by decide, rfl⟩
theorem is_mo_ask : q_ce 274 261 20 6 := ⟨by decide, by decide, rfl⟩
theorem is_mo_passOf : q_ce 274 262 20 120 := ⟨by decide, by decide, rfl⟩
theorem is_mo_priceOf : q_ce 274 263 20 120 := ⟨by decide, by decide, rfl⟩
theorem is_mo_hired : q_ce 274 264 20 24 := ⟨by decide, by decide, rfl⟩
theorem is_mo_with : q_ce 274 265 20 24 := ⟨by decide, by decide, rfl⟩
theorem is_mo_kept : q_ce 274 266 20 720 := ⟨by decide, by decide, rfl⟩
theorem is_mo_longestTo : q_ce 274 267 20 24 := ⟨by decide, by decide, rfl⟩
theorem is_mo_inOrder : q_ce 274 268 20 24 := ⟨by decide, by decide, rfl⟩
theorem is_mo_open0 : q_ce 274 269 20 24 := ⟨by decide, by decide, rfl⟩
theorem is_mo_body : q_ce 274 270 20 24 := ⟨by decide, by decide, rfl⟩
theorem is_mo_bodyHas : q_ce 274 271 20 13 := ⟨by decide, by decide, rfl⟩
theorem is_mo_bestBody : q_ce 274 272 20 24 := ⟨by decide, by decide, rfl⟩
theorem is_mo_octet : q_ce 274 273 20 25 := ⟨by decide, by decide, rfl⟩
theorem r_tp_bytes {g h : Int} : q_rr (RF g h) 1 0 2 := ⟨rfl, by decide⟩
theorem r_hs_tape {g h : Int} : q_rr (RF g h) 0 0 1 := ⟨rfl, by decide⟩
theorem r_ru_tape {g h : Int} : q_rr (RF g h) 4 0 1 := ⟨rfl, by decide⟩
theorem r_ru_code {g h : Int} : q_rr (RF g h) 4 1 5 := ⟨rfl, by decide⟩
theorem r_ru_sumStart {g h : Int} : q_rr (RF g h) 4 3 6 := ⟨rfl, by decide⟩
theorem r_ru_testStart {g h : Int} : q_rr (RF g h) 4 4 7 := ⟨rfl, by decide⟩
theorem r_ru_known {g h : Int} : q_rr (RF g h) 4 5 8 := ⟨rfl, by decide⟩
theorem r_ru_stack {g h : Int} : q_rr (RF g h) 4 6 9 := ⟨rfl, by decide⟩
theorem r_gr_tape {g h : Int} : q_rr (RF g h) 3 0 1 := ⟨rfl, by decide⟩
theorem r_gr_rules {g h : Int} : q_rr (RF g h) 3 1 4 := ⟨rfl, by decide⟩
theorem r_hs_reader {g h : Int} : q_rr (RF g h) 0 1 3 := ⟨rfl, by decide⟩
theorem r_hi_shadeOf {g h : Int} : q_rr (RF g h) 10 0 11 := ⟨rfl, by decide⟩
theorem r_hi_ahead {g h : Int} : q_rr (RF g h) 10 1 12 := ⟨rfl, by decide⟩
theorem r_hs_hires {g h : Int} : q_rr (RF g h) 0 2 10 := ⟨rfl, by decide⟩
theorem r_ch_lengthTo {g h : Int} : q_rr (RF g h) 43 0 44 := ⟨rfl, by decide⟩
theorem r_hs_chains {g h : Int} : q_rr (RF g h) 0 3 43 := ⟨rfl, by decide⟩
theorem r_cr_chosen {g h : Int} : q_rr (RF g h) 45 0 46 := ⟨rfl, by decide⟩
theorem r_cr_crewOf {g h : Int} : q_rr (RF g h) 45 2 47 := ⟨rfl, by decide⟩
theorem r_cr_table {g h : Int} : q_rr (RF g h) 45 4 48 := ⟨rfl, by decide⟩
theorem r_cr_part {g h : Int} : q_rr (RF g h) 45 5 49 := ⟨rfl, by decide⟩
theorem r_hs_crews {g h : Int} : q_rr (RF g h) 0 4 45 := ⟨rfl, by decide⟩
theorem r_hs_image {g h : Int} : q_rr (RF g h) 0 5 50 := ⟨rfl, by decide⟩
theorem r_mo_tape {g h : Int} : q_rr (RF g h) 219 0 220 := ⟨rfl, by decide⟩
theorem r_mo_traitsWord {g h : Int} : q_rr (RF g h) 219 9 221 := ⟨rfl, by decide⟩
theorem r_mo_personWord {g h : Int} : q_rr (RF g h) 219 10 222 := ⟨rfl, by decide⟩
theorem r_mo_shadeWord {g h : Int} : q_rr (RF g h) 219 11 223 := ⟨rfl, by decide⟩
theorem r_mo_feeWord {g h : Int} : q_rr (RF g h) 219 12 224 := ⟨rfl, by decide⟩
theorem r_mo_fakesWord {g h : Int} : q_rr (RF g h) 219 13 225 := ⟨rfl, by decide⟩
theorem r_mo_placeWord {g h : Int} : q_rr (RF g h) 219 14 226 := ⟨rfl, by decide⟩
theorem r_mo_roadWord {g h : Int} : q_rr (RF g h) 219 15 227 := ⟨rfl, by decide⟩
theorem r_mo_seenWord {g h : Int} : q_rr (RF g h) 219 16 228 := ⟨rfl, by decide⟩
theorem r_mo_atWord {g h : Int} : q_rr (RF g h) 219 17 229 := ⟨rfl, by decide⟩
theorem r_mo_hourWord {g h : Int} : q_rr (RF g h) 219 18 230 := ⟨rfl, by decide⟩
theorem r_mo_lightWord {g h : Int} : q_rr (RF g h) 219 19 231 := ⟨rfl, by decide⟩
theorem r_mo_rainWord {g h : Int} : q_rr (RF g h) 219 20 232 := ⟨rfl, by decide⟩
theorem r_mo_dryWord {g h : Int} : q_rr (RF g h) 219 21 233 := ⟨rfl, by decide⟩
theorem r_mo_priceWord {g h : Int} : q_rr (RF g h) 219 22 234 := ⟨rfl, by decide⟩
theorem r_mo_whenWord {g h : Int} : q_rr (RF g h) 219 23 235 := ⟨rfl, by decide⟩
theorem r_mo_titheWord {g h : Int} : q_rr (RF g h) 219 24 236 := ⟨rfl, by decide⟩
theorem r_mo_orWord {g h : Int} : q_rr (RF g h) 219 25 237 := ⟨rfl, by decide⟩
theorem r_mo_andWord {g h : Int} : q_rr (RF g h) 219 26 238 := ⟨rfl, by decide⟩
theorem r_mo_notWord {g h : Int} : q_rr (RF g h) 219 27 239 := ⟨rfl, by decide⟩
theorem r_mo_allWord {g h : Int} : q_rr (RF g h) 219 28 240 := ⟨rfl, by decide⟩
theorem r_mo_wetWord {g h : Int} : q_rr (RF g h) 219 29 241 := ⟨rfl, by decide⟩
theorem r_mo_unlikeWord {g h : Int} : q_rr (RF g h) 219 30 242 := ⟨rfl, by decide⟩
theorem r_mo_passWord {g h : Int} : q_rr (RF g h) 219 31 243 := ⟨rfl, by decide⟩
theorem r_mo_minWord {g h : Int} : q_rr (RF g h) 219 32 244 := ⟨rfl, by decide⟩
theorem r_mo_maxWord {g h : Int} : q_rr (RF g h) 219 33 245 := ⟨rfl, by decide⟩
theorem r_mo_many {g h : Int} : q_rr (RF g h) 219 35 246 := ⟨rfl, by decide⟩
theorem r_mo_names {g h : Int} : q_rr (RF g h) 219 36 247 := ⟨rfl, by decide⟩
theorem r_mo_shows {g h : Int} : q_rr (RF g h) 219 37 248 := ⟨rfl, by decide⟩
theorem r_mo_personHas {g h : Int} : q_rr (RF g h) 219 38 249 := ⟨rfl, by decide⟩
theorem r_mo_shadeHas {g h : Int} : q_rr (RF g h) 219 39 250 := ⟨rfl, by decide⟩
theorem r_mo_fakes {g h : Int} : q_rr (RF g h) 219 40 251 := ⟨rfl, by decide⟩
theorem r_mo_fees {g h : Int} : q_rr (RF g h) 219 41 252 := ⟨rfl, by decide⟩
theorem r_mo_roads {g h : Int} : q_rr (RF g h) 219 42 253 := ⟨rfl, by decide⟩
theorem r_mo_sighted {g h : Int} : q_rr (RF g h) 219 43 254 := ⟨rfl, by decide⟩
theorem r_mo_codes {g h : Int} : q_rr (RF g h) 219 47 255 := ⟨rfl, by decide⟩
theorem r_mo_wait {g h : Int} : q_rr (RF g h) 219 49 256 := ⟨rfl, by decide⟩
theorem r_mo_sumFrom {g h : Int} : q_rr (RF g h) 219 52 257 := ⟨rfl, by decide⟩
theorem r_mo_sumEnd {g h : Int} : q_rr (RF g h) 219 53 258 := ⟨rfl, by decide⟩
theorem r_mo_testEnd {g h : Int} : q_rr (RF g h) 219 54 259 := ⟨rfl, by decide⟩
theorem r_mo_pile {g h : Int} : q_rr (RF g h) 219 56 260 := ⟨rfl, by decide⟩
theorem r_mo_ask {g h : Int} : q_rr (RF g h) 219 58 261 := ⟨rfl, by decide⟩
theorem r_mo_passOf {g h : Int} : q_rr (RF g h) 219 59 262 := ⟨rfl, by decide⟩
theorem r_mo_priceOf {g h : Int} : q_rr (RF g h) 219 60 263 := ⟨rfl, by decide⟩
theorem r_mo_hired {g h : Int} : q_rr (RF g h) 219 61 264 := ⟨rfl, by decide⟩
theorem r_mo_with {g h : Int} : q_rr (RF g h) 219 62 265 := ⟨rfl, by decide⟩
theorem r_mo_kept {g h : Int} : q_rr (RF g h) 219 63 266 := ⟨rfl, by decide⟩
theorem r_mo_longestTo {g h : Int} : q_rr (RF g h) 219 66 267 := ⟨rfl, by decide⟩
theorem r_mo_inOrder {g h : Int} : q_rr (RF g h) 219 67 268 := ⟨rfl, by decide⟩
theorem r_mo_open0 {g h : Int} : q_rr (RF g h) 219 68 269 := ⟨rfl, by decide⟩
theorem r_mo_body {g h : Int} : q_rr (RF g h) 219 70 270 := ⟨rfl, by decide⟩
theorem r_mo_bodyHas {g h : Int} : q_rr (RF g h) 219 71 271 := ⟨rfl, by decide⟩
theorem r_mo_bestBody {g h : Int} : q_rr (RF g h) 219 72 272 := ⟨rfl, by decide⟩
theorem r_mo_octet {g h : Int} : q_rr (RF g h) 219 74 273 := ⟨rfl, by decide⟩
theorem r_hs_now {g h : Int} (hg : q_G g) : q_rr (RF g h) 0 8 g := ⟨rfl, by rcases hg with rfl | rfl <;> decide⟩
theorem r_hs_spare {g h : Int} (hg : q_G g) : q_rr (RF g h) 0 9 (186 - g) := ⟨rfl, by rcases hg with rfl | rfl <;> decide⟩
theorem r_gr_into {g h : Int} (hh : q_G h) : q_rr (RF g h) 3 2 h := ⟨rfl, by rcases hh with rfl | rfl <;> decide⟩
theorem is_hi_ahead_row {i : Int} (h : 0 ≤ i ∧ i < 30) : q_ce 274 (13 + i) 20 24 := ⟨by omega, by omega, by unfold q_kn; rw [if_pos (by omega), if_pos (by omega), if_neg (by omega), if_pos (by omega), if_pos (by omega), if_pos (by omega)]⟩
theorem r_hi_aheadrow {g h i : Int} (hi : 0 ≤ i) : q_rr (RF g h) 12 i (13 + i) := ⟨rfl, by omega⟩
theorem is_gd {g : Int} (hg : q_G g) : q_ce 274 g 2 15 := by rcases hg with rfl | rfl <;> exact ⟨by decide, by decide, rfl⟩
theorem r_gd_counts {g g1 h : Int} (hg : q_G g) : q_rr (RF g1 h) g 0 (g + 1) := by rcases hg with rfl | rfl <;> exact ⟨rfl, by decide⟩
theorem is_gd_counts {g : Int} (hg : q_G g) : q_ce 274 (g + 1) 20 7 := by rcases hg with rfl | rfl <;> exact ⟨by decide, by decide, rfl⟩
theorem r_gd_names {g g1 h : Int} (hg : q_G g) : q_rr (RF g1 h) g 1 (g + 2) := by rcases hg with rfl | rfl <;> exact ⟨rfl, by decide⟩
theorem is_gd_names {g : Int} (hg : q_G g) : q_ce 274 (g + 2) 23 4 := by rcases hg with rfl | rfl <;> exact ⟨by decide, by decide, rfl⟩
theorem is_gd_names_row {g i : Int} (hg : q_G g) (h : 0 ≤ i ∧ i < 4) : q_ce 274 (g + 3 + i) 20 8 := by
  rcases hg with rfl | rfl
  · exact ⟨by omega, by omega, by unfold q_kn; rw [if_pos (by omega), if_pos (by omega), if_neg (by omega), if_neg (by omega), if_neg (by omega), if_neg (by omega), if_pos (by omega)]⟩
  · exact ⟨by omega, by omega, by unfold q_kn; rw [if_pos (by omega), if_neg (by omega), if_neg (by omega), if_neg (by omega), if_pos (by omega), if_pos (by omega)]⟩
theorem r_gd_namesrow {g g1 h i : Int} (hg : q_G g) (h0 : 0 ≤ i) : q_rr (RF g1 h) (g + 2) i (g + 3 + i) := by
  rcases hg with rfl | rfl
  · exact ⟨by show (51 + 2 + 1 + i : Int) = _; omega, by omega⟩
  · exact ⟨by show (135 + 2 + 1 + i : Int) = _; omega, by omega⟩
theorem r_gd_shows {g g1 h : Int} (hg : q_G g) : q_rr (RF g1 h) g 2 (g + 7) := by rcases hg with rfl | rfl <;> exact ⟨rfl, by decide⟩
theorem is_gd_shows {g : Int} (hg : q_G g) : q_ce 274 (g + 7) 23 6 := by rcases hg with rfl | rfl <;> exact ⟨by decide, by decide, rfl⟩
theorem is_gd_shows_row {g i : Int} (hg : q_G g) (h : 0 ≤ i ∧ i < 6) : q_ce 274 (g + 8 + i) 20 2 := by
  rcases hg with rfl | rfl
  · exact ⟨by omega, by omega, by unfold q_kn; rw [if_pos (by omega), if_neg (by omega), if_pos (by omega), if_pos (by omega), if_pos (by omega), if_pos (by omega)]⟩
  · exact ⟨by omega, by omega, by unfold q_kn; rw [if_pos (by omega), if_neg (by omega), if_neg (by omega), if_neg (by omega), if_pos (by omega), if_neg (by omega), if_neg (by omega)]⟩
theorem r_gd_showsrow {g g1 h i : Int} (hg : q_G g) (h0 : 0 ≤ i) : q_rr (RF g1 h) (g + 7) i (g + 8 + i) := by
  rcases hg with rfl | rfl
  · exact ⟨by show (51 + 7 + 1 + i : Int) = _; omega, by omega⟩
  · exact ⟨by show (135 + 7 + 1 + i : Int) = _; omega, by omega⟩
theorem r_gd_looks {g g1 h : Int} (hg : q_G g) : q_rr (RF g1 h) g 3 (g + 14) := by rcases hg with rfl | rfl <;> exact ⟨rfl, by decide⟩
theorem is_gd_looks {g : Int} (hg : q_G g) : q_ce 274 (g + 14) 23 8 := by rcases hg with rfl | rfl <;> exact ⟨by decide, by decide, rfl⟩
theorem is_gd_looks_row {g i : Int} (hg : q_G g) (h : 0 ≤ i ∧ i < 8) : q_ce 274 (g + 15 + i) 20 6 := by
  rcases hg with rfl | rfl
  · exact ⟨by omega, by omega, by unfold q_kn; rw [if_pos (by omega), if_neg (by omega), if_pos (by omega), if_pos (by omega), if_pos (by omega), if_neg (by omega), if_neg (by omega)]⟩
  · exact ⟨by omega, by omega, by unfold q_kn; rw [if_pos (by omega), if_neg (by omega), if_neg (by omega), if_neg (by omega), if_neg (by omega), if_pos (by omega), if_neg (by omega)]⟩
theorem r_gd_looksrow {g g1 h i : Int} (hg : q_G g) (h0 : 0 ≤ i) : q_rr (RF g1 h) (g + 14) i (g + 15 + i) := by
  rcases hg with rfl | rfl
  · exact ⟨by show (51 + 14 + 1 + i : Int) = _; omega, by omega⟩
  · exact ⟨by show (135 + 14 + 1 + i : Int) = _; omega, by omega⟩
theorem r_gd_owns {g g1 h : Int} (hg : q_G g) : q_rr (RF g1 h) g 4 (g + 23) := by rcases hg with rfl | rfl <;> exact ⟨rfl, by decide⟩
theorem is_gd_owns {g : Int} (hg : q_G g) : q_ce 274 (g + 23) 23 5 := by rcases hg with rfl | rfl <;> exact ⟨by decide, by decide, rfl⟩
theorem is_gd_owns_row {g i : Int} (hg : q_G g) (h : 0 ≤ i ∧ i < 5) : q_ce 274 (g + 24 + i) 20 6 := by
  rcases hg with rfl | rfl
  · exact ⟨by omega, by omega, by unfold q_kn; rw [if_pos (by omega), if_neg (by omega), if_pos (by omega), if_pos (by omega), if_neg (by omega), if_neg (by omega), if_pos (by omega)]⟩
  · exact ⟨by omega, by omega, by unfold q_kn; rw [if_pos (by omega), if_neg (by omega), if_neg (by omega), if_neg (by omega), if_neg (by omega), if_neg (by omega), if_neg (by omega)]⟩
theorem r_gd_ownsrow {g g1 h i : Int} (hg : q_G g) (h0 : 0 ≤ i) : q_rr (RF g1 h) (g + 23) i (g + 24 + i) := by
  rcases hg with rfl | rfl
  · exact ⟨by show (51 + 23 + 1 + i : Int) = _; omega, by omega⟩
  · exact ⟨by show (135 + 23 + 1 + i : Int) = _; omega, by omega⟩
theorem r_gd_fakes {g g1 h : Int} (hg : q_G g) : q_rr (RF g1 h) g 5 (g + 29) := by rcases hg with rfl | rfl <;> exact ⟨rfl, by decide⟩
theorem is_gd_fakes {g : Int} (hg : q_G g) : q_ce 274 (g + 29) 23 5 := by rcases hg with rfl | rfl <;> exact ⟨by decide, by decide, rfl⟩
theorem is_gd_fakes_row {g i : Int} (hg : q_G g) (h : 0 ≤ i ∧ i < 5) : q_ce 274 (g + 30 + i) 20 6 := by
  rcases hg with rfl | rfl
  · exact ⟨by omega, by omega, by unfold q_kn; rw [if_pos (by omega), if_neg (by omega), if_pos (by omega), if_neg (by omega), if_pos (by omega), if_pos (by omega)]⟩
  · exact ⟨by omega, by omega, by unfold q_kn; rw [if_neg (by omega), if_pos (by omega), if_pos (by omega), if_pos (by omega), if_pos (by omega), if_neg (by omega), if_pos (by omega)]⟩
theorem r_gd_fakesrow {g g1 h i : Int} (hg : q_G g) (h0 : 0 ≤ i) : q_rr (RF g1 h) (g + 29) i (g + 30 + i) := by
  rcases hg with rfl | rfl
  · exact ⟨by show (51 + 29 + 1 + i : Int) = _; omega, by omega⟩
  · exact ⟨by show (135 + 29 + 1 + i : Int) = _; omega, by omega⟩
theorem r_gd_fees {g g1 h : Int} (hg : q_G g) : q_rr (RF g1 h) g 6 (g + 35) := by rcases hg with rfl | rfl <;> exact ⟨rfl, by decide⟩
theorem is_gd_fees {g : Int} (hg : q_G g) : q_ce 274 (g + 35) 20 5 := by rcases hg with rfl | rfl <;> exact ⟨by decide, by decide, rfl⟩
theorem r_gd_hours {g g1 h : Int} (hg : q_G g) : q_rr (RF g1 h) g 7 (g + 36) := by rcases hg with rfl | rfl <;> exact ⟨rfl, by decide⟩
theorem is_gd_hours {g : Int} (hg : q_G g) : q_ce 274 (g + 36) 23 8 := by rcases hg with rfl | rfl <;> exact ⟨by decide, by decide, rfl⟩
theorem is_gd_hours_row {g i : Int} (hg : q_G g) (h : 0 ≤ i ∧ i < 8) : q_ce 274 (g + 37 + i) 20 8 := by
  rcases hg with rfl | rfl
  · exact ⟨by omega, by omega, by unfold q_kn; rw [if_pos (by omega), if_neg (by omega), if_pos (by omega), if_neg (by omega), if_neg (by omega), if_pos (by omega), if_pos (by omega)]⟩
  · exact ⟨by omega, by omega, by unfold q_kn; rw [if_neg (by omega), if_pos (by omega), if_pos (by omega), if_pos (by omega), if_neg (by omega), if_neg (by omega), if_pos (by omega)]⟩
theorem r_gd_hoursrow {g g1 h i : Int} (hg : q_G g) (h0 : 0 ≤ i) : q_rr (RF g1 h) (g + 36) i (g + 37 + i) := by
  rcases hg with rfl | rfl
  · exact ⟨by show (51 + 36 + 1 + i : Int) = _; omega, by omega⟩
  · exact ⟨by show (135 + 36 + 1 + i : Int) = _; omega, by omega⟩
theorem r_gd_sightings {g g1 h : Int} (hg : q_G g) : q_rr (RF g1 h) g 8 (g + 45) := by rcases hg with rfl | rfl <;> exact ⟨rfl, by decide⟩
theorem is_gd_sightings {g : Int} (hg : q_G g) : q_ce 274 (g + 45) 23 24 := by rcases hg with rfl | rfl <;> exact ⟨by decide, by decide, rfl⟩
theorem is_gd_sightings_row {g i : Int} (hg : q_G g) (h : 0 ≤ i ∧ i < 24) : q_ce 274 (g + 46 + i) 20 5 := by
  rcases hg with rfl | rfl
  · exact ⟨by omega, by omega, by unfold q_kn; rw [if_pos (by omega), if_neg (by omega), if_pos (by omega), if_neg (by omega), if_neg (by omega), if_neg (by omega), if_pos (by omega)]⟩
  · exact ⟨by omega, by omega, by unfold q_kn; rw [if_neg (by omega), if_pos (by omega), if_pos (by omega), if_neg (by omega), if_pos (by omega), if_pos (by omega)]⟩
theorem r_gd_sightingsrow {g g1 h i : Int} (hg : q_G g) (h0 : 0 ≤ i) : q_rr (RF g1 h) (g + 45) i (g + 46 + i) := by
  rcases hg with rfl | rfl
  · exact ⟨by show (51 + 45 + 1 + i : Int) = _; omega, by omega⟩
  · exact ⟨by show (135 + 45 + 1 + i : Int) = _; omega, by omega⟩
theorem r_gd_passes {g g1 h : Int} (hg : q_G g) : q_rr (RF g1 h) g 9 (g + 70) := by rcases hg with rfl | rfl <;> exact ⟨rfl, by decide⟩
theorem is_gd_passes {g : Int} (hg : q_G g) : q_ce 274 (g + 70) 23 5 := by rcases hg with rfl | rfl <;> exact ⟨by decide, by decide, rfl⟩
theorem is_gd_passes_row {g i : Int} (hg : q_G g) (h : 0 ≤ i ∧ i < 5) : q_ce 274 (g + 71 + i) 20 24 := by
  rcases hg with rfl | rfl
  · exact ⟨by omega, by omega, by unfold q_kn; rw [if_pos (by omega), if_neg (by omega), if_neg (by omega), if_pos (by omega), if_pos (by omega), if_pos (by omega)]⟩
  · exact ⟨by omega, by omega, by unfold q_kn; rw [if_neg (by omega), if_pos (by omega), if_pos (by omega), if_neg (by omega), if_pos (by omega), if_neg (by omega), if_neg (by omega)]⟩
theorem r_gd_passesrow {g g1 h i : Int} (hg : q_G g) (h0 : 0 ≤ i) : q_rr (RF g1 h) (g + 70) i (g + 71 + i) := by
  rcases hg with rfl | rfl
  · exact ⟨by show (51 + 70 + 1 + i : Int) = _; omega, by omega⟩
  · exact ⟨by show (135 + 70 + 1 + i : Int) = _; omega, by omega⟩
theorem r_gd_prices {g g1 h : Int} (hg : q_G g) : q_rr (RF g1 h) g 10 (g + 76) := by rcases hg with rfl | rfl <;> exact ⟨rfl, by decide⟩
theorem is_gd_prices {g : Int} (hg : q_G g) : q_ce 274 (g + 76) 23 5 := by rcases hg with rfl | rfl <;> exact ⟨by decide, by decide, rfl⟩
theorem is_gd_prices_row {g i : Int} (hg : q_G g) (h : 0 ≤ i ∧ i < 5) : q_ce 274 (g + 77 + i) 20 24 := by
  rcases hg with rfl | rfl
  · exact ⟨by omega, by omega, by unfold q_kn; rw [if_pos (by omega), if_neg (by omega), if_neg (by omega), if_pos (by omega), if_pos (by omega), if_neg (by omega), if_neg (by omega)]⟩
  · exact ⟨by omega, by omega, by unfold q_kn; rw [if_neg (by omega), if_pos (by omega), if_pos (by omega), if_neg (by omega), if_neg (by omega), if_pos (by omega), if_neg (by omega)]⟩
theorem r_gd_pricesrow {g g1 h i : Int} (hg : q_G g) (h0 : 0 ≤ i) : q_rr (RF g1 h) (g + 76) i (g + 77 + i) := by
  rcases hg with rfl | rfl
  · exact ⟨by show (51 + 76 + 1 + i : Int) = _; omega, by omega⟩
  · exact ⟨by show (135 + 76 + 1 + i : Int) = _; omega, by omega⟩
theorem r_gd_meets {g g1 h : Int} (hg : q_G g) : q_rr (RF g1 h) g 11 (g + 82) := by rcases hg with rfl | rfl <;> exact ⟨rfl, by decide⟩
theorem is_gd_meets {g : Int} (hg : q_G g) : q_ce 274 (g + 82) 20 24 := by rcases hg with rfl | rfl <;> exact ⟨by decide, by decide, rfl⟩
theorem r_gd_byHour {g g1 h : Int} (hg : q_G g) : q_rr (RF g1 h) g 12 (g + 83) := by rcases hg with rfl | rfl <;> exact ⟨rfl, by decide⟩
theorem is_gd_byHour {g : Int} (hg : q_G g) : q_ce 274 (g + 83) 20 24 := by rcases hg with rfl | rfl <;> exact ⟨by decide, by decide, rfl⟩
