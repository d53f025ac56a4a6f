/-! the reference's constructor (written by wip/gen/gen_init.py) -/
def rI_mo (rf : Int → Int → Int) : Int → Int → Int := (q_up (q_up (q_up (q_up (q_up (q_up (q_up (q_up (q_up (q_up (q_up (q_up (q_up (q_up (q_up (q_up (q_up (q_up (q_up (q_up (q_up (q_up (q_up (q_up (q_up (q_up (q_up (q_up (q_up (q_up (q_up (q_up (q_up (q_up (q_up (q_up (q_up (q_up (q_up (q_up (q_up (q_up (q_up (q_up (q_up (q_up (q_up (q_up (q_up (q_up (q_up (q_up (q_up (q_up rf 219 0 220) 219 9 221) 219 10 222) 219 11 223) 219 12 224) 219 13 225) 219 14 226) 219 15 227) 219 16 228) 219 17 229) 219 18 230) 219 19 231) 219 20 232) 219 21 233) 219 22 234) 219 23 235) 219 24 236) 219 25 237) 219 26 238) 219 27 239) 219 28 240) 219 29 241) 219 30 242) 219 31 243) 219 32 244) 219 33 245) 219 35 246) 219 36 247) 219 37 248) 219 38 249) 219 39 250) 219 40 251) 219 41 252) 219 42 253) 219 43 254) 219 47 255) 219 49 256) 219 52 257) 219 53 258) 219 54 259) 219 56 260) 219 58 261) 219 59 262) 219 60 263) 219 61 264) 219 62 265) 219 63 266) 219 66 267) 219 67 268) 219 68 269) 219 70 270) 219 71 271) 219 72 272) 219 74 273)
def fI_mo (f : q_F) : q_F := (q_up (q_up (q_up (q_up (q_up (q_up (q_up (q_up (q_up (q_up (q_up (q_up (q_up (q_up (q_up (q_up (q_up (q_up (q_up (q_up (q_up (q_up (q_up (q_up (q_up (q_up (q_up (q_up (q_up (q_up (q_up (q_up (q_up (q_up (q_up (q_up (q_up (q_up (q_up (q_up (q_up (q_up (q_up (q_up (q_up (q_up (q_up (q_up (q_up (q_up (q_up (q_up (q_up (q_up (q_up (q_up (q_up (q_up (q_up (q_up (q_up (q_up (q_up (q_up (q_up (q_up (q_up (q_up (q_up (q_up (q_up (q_up (q_up (q_up (q_up (q_up (q_up (q_up (q_up (q_up (q_up (q_up (q_up (q_up (q_up (q_up (q_up (q_up (q_up (q_up (q_up (q_up (q_up (q_up (q_up (q_up (q_up (q_up (q_up (q_up (q_up (q_up f 219 8 (-1)) 221 0 116) 221 1 114) 221 2 97) 221 3 105) 221 4 116) 221 5 115) 222 0 112) 222 1 101) 222 2 114) 222 3 115) 222 4 111) 222 5 110) 223 0 115) 223 1 104) 223 2 97) 223 3 100) 223 4 101) 224 0 102) 224 1 101) 224 2 101) 225 0 102) 225 1 97) 225 2 107) 225 3 101) 225 4 115) 226 0 112) 226 1 108) 226 2 97) 226 3 99) 226 4 101) 227 0 114) 227 1 111) 227 2 97) 227 3 100) 228 0 115) 228 1 101) 228 2 101) 228 3 110) 229 0 97) 229 1 116) 230 0 104) 230 1 111) 230 2 117) 230 3 114) 231 0 108) 231 1 105) 231 2 103) 231 3 104) 231 4 116) 232 0 114) 232 1 97) 232 2 105) 232 3 110) 233 0 100) 233 1 114) 233 2 121) 234 0 112) 234 1 114) 234 2 105) 234 3 99) 234 4 101) 235 0 119) 235 1 104) 235 2 101) 235 3 110) 236 0 116) 236 1 105) 236 2 116) 236 3 104) 236 4 101) 237 0 111) 237 1 114) 238 0 97) 238 1 110) 238 2 100) 239 0 110) 239 1 111) 239 2 116) 240 0 97) 240 1 108) 240 2 108) 241 0 119) 241 1 101) 241 2 116) 242 0 117) 242 1 110) 242 2 108) 242 3 105) 242 4 107) 242 5 101) 243 0 112) 243 1 97) 243 2 115) 243 3 115) 244 0 109) 244 1 105) 244 2 110) 245 0 109) 245 1 97) 245 2 120) 219 73 1)
theorem fr_mo {rf : Int → Int → Int} {f : q_F} (hF : fresh 220 rf f) : fresh 274 (rI_mo rf) (fI_mo f) := by
  have hF0 := hF.mono 221 (by decide)
  have hF1 := hF0.upR 219 0 220 (by decide)
  have hF2 := hF1.upI 219 8 (-1) (by decide)
  have hF3 := hF2.mono 222 (by decide)
  have hF4 := hF3.upI 221 0 116 (by decide)
  have hF5 := hF4.upI 221 1 114 (by decide)
  have hF6 := hF5.upI 221 2 97 (by decide)
  have hF7 := hF6.upI 221 3 105 (by decide)
  have hF8 := hF7.upI 221 4 116 (by decide)
  have hF9 := hF8.upI 221 5 115 (by decide)
  have hF10 := hF9.upR 219 9 221 (by decide)
  have hF11 := hF10.mono 223 (by decide)
  have hF12 := hF11.upI 222 0 112 (by decide)
  have hF13 := hF12.upI 222 1 101 (by decide)
  have hF14 := hF13.upI 222 2 114 (by decide)
  have hF15 := hF14.upI 222 3 115 (by decide)
  have hF16 := hF15.upI 222 4 111 (by decide)
  have hF17 := hF16.upI 222 5 110 (by decide)
  have hF18 := hF17.upR 219 10 222 (by decide)
  have hF19 := hF18.mono 224 (by decide)
  have hF20 := hF19.upI 223 0 115 (by decide)
  have hF21 := hF20.upI 223 1 104 (by decide)
  have hF22 := hF21.upI 223 2 97 (by decide)
  have hF23 := hF22.upI 223 3 100 (by decide)
  have hF24 := hF23.upI 223 4 101 (by decide)
  have hF25 := hF24.upR 219 11 223 (by decide)
  have hF26 := hF25.mono 225 (by decide)
  have hF27 := hF26.upI 224 0 102 (by decide)
  have hF28 := hF27.upI 224 1 101 (by decide)
  have hF29 := hF28.upI 224 2 101 (by decide)
  have hF30 := hF29.upR 219 12 224 (by decide)
  have hF31 := hF30.mono 226 (by decide)
  have hF32 := hF31.upI 225 0 102 (by decide)
  have hF33 := hF32.upI 225 1 97 (by decide)
  have hF34 := hF33.upI 225 2 107 (by decide)
  have hF35 := hF34.upI 225 3 101 (by decide)
  have hF36 := hF35.upI 225 4 115 (by decide)
  have hF37 := hF36.upR 219 13 225 (by decide)
  have hF38 := hF37.mono 227 (by decide)
  have hF39 := hF38.upI 226 0 112 (by decide)
  have hF40 := hF39.upI 226 1 108 (by decide)
  have hF41 := hF40.upI 226 2 97 (by decide)
  have hF42 := hF41.upI 226 3 99 (by decide)
  have hF43 := hF42.upI 226 4 101 (by decide)
  have hF44 := hF43.upR 219 14 226 (by decide)
  have hF45 := hF44.mono 228 (by decide)
  have hF46 := hF45.upI 227 0 114 (by decide)
  have hF47 := hF46.upI 227 1 111 (by decide)
  have hF48 := hF47.upI 227 2 97 (by decide)
  have hF49 := hF48.upI 227 3 100 (by decide)
  have hF50 := hF49.upR 219 15 227 (by decide)
  have hF51 := hF50.mono 229 (by decide)
  have hF52 := hF51.upI 228 0 115 (by decide)
  have hF53 := hF52.upI 228 1 101 (by decide)
  have hF54 := hF53.upI 228 2 101 (by decide)
  have hF55 := hF54.upI 228 3 110 (by decide)
  have hF56 := hF55.upR 219 16 228 (by decide)
  have hF57 := hF56.mono 230 (by decide)
  have hF58 := hF57.upI 229 0 97 (by decide)
  have hF59 := hF58.upI 229 1 116 (by decide)
  have hF60 := hF59.upR 219 17 229 (by decide)
  have hF61 := hF60.mono 231 (by decide)
  have hF62 := hF61.upI 230 0 104 (by decide)
  have hF63 := hF62.upI 230 1 111 (by decide)
  have hF64 := hF63.upI 230 2 117 (by decide)
  have hF65 := hF64.upI 230 3 114 (by decide)
  have hF66 := hF65.upR 219 18 230 (by decide)
  have hF67 := hF66.mono 232 (by decide)
  have hF68 := hF67.upI 231 0 108 (by decide)
  have hF69 := hF68.upI 231 1 105 (by decide)
  have hF70 := hF69.upI 231 2 103 (by decide)
  have hF71 := hF70.upI 231 3 104 (by decide)
  have hF72 := hF71.upI 231 4 116 (by decide)
  have hF73 := hF72.upR 219 19 231 (by decide)
  have hF74 := hF73.mono 233 (by decide)
  have hF75 := hF74.upI 232 0 114 (by decide)
  have hF76 := hF75.upI 232 1 97 (by decide)
  have hF77 := hF76.upI 232 2 105 (by decide)
  have hF78 := hF77.upI 232 3 110 (by decide)
  have hF79 := hF78.upR 219 20 232 (by decide)
  have hF80 := hF79.mono 234 (by decide)
  have hF81 := hF80.upI 233 0 100 (by decide)
  have hF82 := hF81.upI 233 1 114 (by decide)
  have hF83 := hF82.upI 233 2 121 (by decide)
  have hF84 := hF83.upR 219 21 233 (by decide)
  have hF85 := hF84.mono 235 (by decide)
  have hF86 := hF85.upI 234 0 112 (by decide)
  have hF87 := hF86.upI 234 1 114 (by decide)
  have hF88 := hF87.upI 234 2 105 (by decide)
  have hF89 := hF88.upI 234 3 99 (by decide)
  have hF90 := hF89.upI 234 4 101 (by decide)
  have hF91 := hF90.upR 219 22 234 (by decide)
  have hF92 := hF91.mono 236 (by decide)
  have hF93 := hF92.upI 235 0 119 (by decide)
  have hF94 := hF93.upI 235 1 104 (by decide)
  have hF95 := hF94.upI 235 2 101 (by decide)
  have hF96 := hF95.upI 235 3 110 (by decide)
  have hF97 := hF96.upR 219 23 235 (by decide)
  have hF98 := hF97.mono 237 (by decide)
  have hF99 := hF98.upI 236 0 116 (by decide)
  have hF100 := hF99.upI 236 1 105 (by decide)
  have hF101 := hF100.upI 236 2 116 (by decide)
  have hF102 := hF101.upI 236 3 104 (by decide)
  have hF103 := hF102.upI 236 4 101 (by decide)
  have hF104 := hF103.upR 219 24 236 (by decide)
  have hF105 := hF104.mono 238 (by decide)
  have hF106 := hF105.upI 237 0 111 (by decide)
  have hF107 := hF106.upI 237 1 114 (by decide)
  have hF108 := hF107.upR 219 25 237 (by decide)
  have hF109 := hF108.mono 239 (by decide)
  have hF110 := hF109.upI 238 0 97 (by decide)
  have hF111 := hF110.upI 238 1 110 (by decide)
  have hF112 := hF111.upI 238 2 100 (by decide)
  have hF113 := hF112.upR 219 26 238 (by decide)
  have hF114 := hF113.mono 240 (by decide)
  have hF115 := hF114.upI 239 0 110 (by decide)
  have hF116 := hF115.upI 239 1 111 (by decide)
  have hF117 := hF116.upI 239 2 116 (by decide)
  have hF118 := hF117.upR 219 27 239 (by decide)
  have hF119 := hF118.mono 241 (by decide)
  have hF120 := hF119.upI 240 0 97 (by decide)
  have hF121 := hF120.upI 240 1 108 (by decide)
  have hF122 := hF121.upI 240 2 108 (by decide)
  have hF123 := hF122.upR 219 28 240 (by decide)
  have hF124 := hF123.mono 242 (by decide)
  have hF125 := hF124.upI 241 0 119 (by decide)
  have hF126 := hF125.upI 241 1 101 (by decide)
  have hF127 := hF126.upI 241 2 116 (by decide)
  have hF128 := hF127.upR 219 29 241 (by decide)
  have hF129 := hF128.mono 243 (by decide)
  have hF130 := hF129.upI 242 0 117 (by decide)
  have hF131 := hF130.upI 242 1 110 (by decide)
  have hF132 := hF131.upI 242 2 108 (by decide)
  have hF133 := hF132.upI 242 3 105 (by decide)
  have hF134 := hF133.upI 242 4 107 (by decide)
  have hF135 := hF134.upI 242 5 101 (by decide)
  have hF136 := hF135.upR 219 30 242 (by decide)
  have hF137 := hF136.mono 244 (by decide)
  have hF138 := hF137.upI 243 0 112 (by decide)
  have hF139 := hF138.upI 243 1 97 (by decide)
  have hF140 := hF139.upI 243 2 115 (by decide)
  have hF141 := hF140.upI 243 3 115 (by decide)
  have hF142 := hF141.upR 219 31 243 (by decide)
  have hF143 := hF142.mono 245 (by decide)
  have hF144 := hF143.upI 244 0 109 (by decide)
  have hF145 := hF144.upI 244 1 105 (by decide)
  have hF146 := hF145.upI 244 2 110 (by decide)
  have hF147 := hF146.upR 219 32 244 (by decide)
  have hF148 := hF147.mono 246 (by decide)
  have hF149 := hF148.upI 245 0 109 (by decide)
  have hF150 := hF149.upI 245 1 97 (by decide)
  have hF151 := hF150.upI 245 2 120 (by decide)
  have hF152 := hF151.upR 219 33 245 (by decide)
  have hF153 := hF152.mono 247 (by decide)
  have hF154 := hF153.upR 219 35 246 (by decide)
  have hF155 := hF154.mono 248 (by decide)
  have hF156 := hF155.upR 219 36 247 (by decide)
  have hF157 := hF156.mono 249 (by decide)
  have hF158 := hF157.upR 219 37 248 (by decide)
  have hF159 := hF158.mono 250 (by decide)
  have hF160 := hF159.upR 219 38 249 (by decide)
  have hF161 := hF160.mono 251 (by decide)
  have hF162 := hF161.upR 219 39 250 (by decide)
  have hF163 := hF162.mono 252 (by decide)
  have hF164 := hF163.upR 219 40 251 (by decide)
  have hF165 := hF164.mono 253 (by decide)
  have hF166 := hF165.upR 219 41 252 (by decide)
  have hF167 := hF166.mono 254 (by decide)
  have hF168 := hF167.upR 219 42 253 (by decide)
  have hF169 := hF168.mono 255 (by decide)
  have hF170 := hF169.upR 219 43 254 (by decide)
  have hF171 := hF170.mono 256 (by decide)
  have hF172 := hF171.upR 219 47 255 (by decide)
  have hF173 := hF172.mono 257 (by decide)
  have hF174 := hF173.upR 219 49 256 (by decide)
  have hF175 := hF174.mono 258 (by decide)
  have hF176 := hF175.upR 219 52 257 (by decide)
  have hF177 := hF176.mono 259 (by decide)
  have hF178 := hF177.upR 219 53 258 (by decide)
  have hF179 := hF178.mono 260 (by decide)
  have hF180 := hF179.upR 219 54 259 (by decide)
  have hF181 := hF180.mono 261 (by decide)
  have hF182 := hF181.upR 219 56 260 (by decide)
  have hF183 := hF182.mono 262 (by decide)
  have hF184 := hF183.upR 219 58 261 (by decide)
  have hF185 := hF184.mono 263 (by decide)
  have hF186 := hF185.upR 219 59 262 (by decide)
  have hF187 := hF186.mono 264 (by decide)
  have hF188 := hF187.upR 219 60 263 (by decide)
  have hF189 := hF188.mono 265 (by decide)
  have hF190 := hF189.upR 219 61 264 (by decide)
  have hF191 := hF190.mono 266 (by decide)
  have hF192 := hF191.upR 219 62 265 (by decide)
  have hF193 := hF192.mono 267 (by decide)
  have hF194 := hF193.upR 219 63 266 (by decide)
  have hF195 := hF194.mono 268 (by decide)
  have hF196 := hF195.upR 219 66 267 (by decide)
  have hF197 := hF196.mono 269 (by decide)
  have hF198 := hF197.upR 219 67 268 (by decide)
  have hF199 := hF198.mono 270 (by decide)
  have hF200 := hF199.upR 219 68 269 (by decide)
  have hF201 := hF200.mono 271 (by decide)
  have hF202 := hF201.upR 219 70 270 (by decide)
  have hF203 := hF202.mono 272 (by decide)
  have hF204 := hF203.upR 219 71 271 (by decide)
  have hF205 := hF204.mono 273 (by decide)
  have hF206 := hF205.upR 219 72 272 (by decide)
  have hF207 := hF206.upI 219 73 1 (by decide)
  have hF208 := hF207.mono 274 (by decide)
  have hF209 := hF208.upR 219 74 273 (by decide)
  exact hF209
theorem ok_mo_init {D : q_D} {rf : Int → Int → Int} {f : q_F} (hF : fresh 220 rf f) : Ok D m_mo_init [vr D 219] (220, rf, 0, 0) f (fun v z' f2 => v = vu ∧ z'.1 = 274 ∧ z'.2.1 = rI_mo rf ∧ f2 = fI_mo f) := by
  refine I_ok (L0 := [vr D 219]) mi_mo_init rfl rfl (Nat.le_of_ble_eq_true rfl) (fun C hR => ?_)
  refine V_aload_0 d_mo_init_0 ?_
  refine V_obj d_mo_init_1 (q_in 942 (by decide +kernel) rfl) (q_in 23 (by decide +kernel) rfl) (q_in 24 (by decide +kernel) rfl) (by decide) ?_
  refine V_aload_0 d_mo_init_4 ?_
  refine V_sipush 1600 d_mo_init_5 (by decide) ?_
  refine I_ai (r := 220) 221 1 1600 d_mo_init_8 (by decide +kernel) rfl ⟨rfl, rfl, rfl, by decide, by decide⟩ hF (by decide) ?_
  have hF0 := hF.mono 221 (by decide)
  refine V_putF (n := 76) d_mo_init_10 fl_mo_7 ⟨by decide, by decide, by decide +kernel⟩ rfl rfl rfl rfl (fun c hc => by cases hc; rfl) (by decide) ?_
  have hF1 := hF0.upR 219 0 220 (by decide)
  refine V_aload_0 d_mo_init_13 ?_
  refine V_iconst (-1) d_mo_init_14 ?_
  refine V_putI (n := 76) d_mo_init_15 fl_mo_13 ⟨by decide, by decide, by decide +kernel⟩ ?_
  have hF2 := hF1.upI 219 8 (-1) (by decide)
  refine V_aload_0 d_mo_init_18 ?_
  refine V_bipush 6 d_mo_init_19 (by decide) ?_
  refine I_ac (r := 221) 222 2 1606 d_mo_init_21 (by decide +kernel) rfl ⟨rfl, rfl, rfl, by decide, by decide⟩ hF2 (by decide) ?_
  have hF3 := hF2.mono 222 (by decide)
  refine V_dup d_mo_init_23 rfl ?_
  refine V_iconst 0 d_mo_init_24 ?_
  refine V_bipush 116 d_mo_init_25 (by decide) ?_
  refine V_cast d_mo_init_27 (n := 6) ⟨by decide, by decide, by decide +kernel⟩ (by decide) (by decide) (by decide) ?_
  have hF4 := hF3.upI 221 0 116 (by decide)
  refine V_dup d_mo_init_28 rfl ?_
  refine V_iconst 1 d_mo_init_29 ?_
  refine V_bipush 114 d_mo_init_30 (by decide) ?_
  refine V_cast d_mo_init_32 (n := 6) ⟨by decide, by decide, by decide +kernel⟩ (by decide) (by decide) (by decide) ?_
  have hF5 := hF4.upI 221 1 114 (by decide)
  refine V_dup d_mo_init_33 rfl ?_
  refine V_iconst 2 d_mo_init_34 ?_
  refine V_bipush 97 d_mo_init_35 (by decide) ?_
  refine V_cast d_mo_init_37 (n := 6) ⟨by decide, by decide, by decide +kernel⟩ (by decide) (by decide) (by decide) ?_
  have hF6 := hF5.upI 221 2 97 (by decide)
  refine V_dup d_mo_init_38 rfl ?_
  refine V_iconst 3 d_mo_init_39 ?_
  refine V_bipush 105 d_mo_init_40 (by decide) ?_
  refine V_cast d_mo_init_42 (n := 6) ⟨by decide, by decide, by decide +kernel⟩ (by decide) (by decide) (by decide) ?_
  have hF7 := hF6.upI 221 3 105 (by decide)
  refine V_dup d_mo_init_43 rfl ?_
  refine V_iconst 4 d_mo_init_44 ?_
  refine V_bipush 116 d_mo_init_45 (by decide) ?_
  refine V_cast d_mo_init_47 (n := 6) ⟨by decide, by decide, by decide +kernel⟩ (by decide) (by decide) (by decide) ?_
  have hF8 := hF7.upI 221 4 116 (by decide)
  refine V_dup d_mo_init_48 rfl ?_
  refine V_iconst 5 d_mo_init_49 ?_
  refine V_bipush 115 d_mo_init_50 (by decide) ?_
  refine V_cast d_mo_init_52 (n := 6) ⟨by decide, by decide, by decide +kernel⟩ (by decide) (by decide) (by decide) ?_
  have hF9 := hF8.upI 221 5 115 (by decide)
  refine V_putF (n := 76) d_mo_init_53 fl_mo_17 ⟨by decide, by decide, by decide +kernel⟩ rfl rfl rfl rfl (fun c hc => by cases hc; rfl) (by decide) ?_
  have hF10 := hF9.upR 219 9 221 (by decide)
  refine V_aload_0 d_mo_init_56 ?_
  refine V_bipush 6 d_mo_init_57 (by decide) ?_
  refine I_ac (r := 222) 223 3 1612 d_mo_init_59 (by decide +kernel) rfl ⟨rfl, rfl, rfl, by decide, by decide⟩ hF10 (by decide) ?_
  have hF11 := hF10.mono 223 (by decide)
  refine V_dup d_mo_init_61 rfl ?_
  refine V_iconst 0 d_mo_init_62 ?_
  refine V_bipush 112 d_mo_init_63 (by decide) ?_
  refine V_cast d_mo_init_65 (n := 6) ⟨by decide, by decide, by decide +kernel⟩ (by decide) (by decide) (by decide) ?_
  have hF12 := hF11.upI 222 0 112 (by decide)
  refine V_dup d_mo_init_66 rfl ?_
  refine V_iconst 1 d_mo_init_67 ?_
  refine V_bipush 101 d_mo_init_68 (by decide) ?_
  refine V_cast d_mo_init_70 (n := 6) ⟨by decide, by decide, by decide +kernel⟩ (by decide) (by decide) (by decide) ?_
  have hF13 := hF12.upI 222 1 101 (by decide)
  refine V_dup d_mo_init_71 rfl ?_
  refine V_iconst 2 d_mo_init_72 ?_
  refine V_bipush 114 d_mo_init_73 (by decide) ?_
  refine V_cast d_mo_init_75 (n := 6) ⟨by decide, by decide, by decide +kernel⟩ (by decide) (by decide) (by decide) ?_
  have hF14 := hF13.upI 222 2 114 (by decide)
  refine V_dup d_mo_init_76 rfl ?_
  refine V_iconst 3 d_mo_init_77 ?_
  refine V_bipush 115 d_mo_init_78 (by decide) ?_
  refine V_cast d_mo_init_80 (n := 6) ⟨by decide, by decide, by decide +kernel⟩ (by decide) (by decide) (by decide) ?_
  have hF15 := hF14.upI 222 3 115 (by decide)
  refine V_dup d_mo_init_81 rfl ?_
  refine V_iconst 4 d_mo_init_82 ?_
  refine V_bipush 111 d_mo_init_83 (by decide) ?_
  refine V_cast d_mo_init_85 (n := 6) ⟨by decide, by decide, by decide +kernel⟩ (by decide) (by decide) (by decide) ?_
  have hF16 := hF15.upI 222 4 111 (by decide)
  refine V_dup d_mo_init_86 rfl ?_
  refine V_iconst 5 d_mo_init_87 ?_
  refine V_bipush 110 d_mo_init_88 (by decide) ?_
  refine V_cast d_mo_init_90 (n := 6) ⟨by decide, by decide, by decide +kernel⟩ (by decide) (by decide) (by decide) ?_
  have hF17 := hF16.upI 222 5 110 (by decide)
  refine V_putF (n := 76) d_mo_init_91 fl_mo_21 ⟨by decide, by decide, by decide +kernel⟩ rfl rfl rfl rfl (fun c hc => by cases hc; rfl) (by decide) ?_
  have hF18 := hF17.upR 219 10 222 (by decide)
  refine V_aload_0 d_mo_init_94 ?_
  refine V_iconst 5 d_mo_init_95 ?_
  refine I_ac (r := 223) 224 4 1617 d_mo_init_96 (by decide +kernel) rfl ⟨rfl, rfl, rfl, by decide, by decide⟩ hF18 (by decide) ?_
  have hF19 := hF18.mono 224 (by decide)
  refine V_dup d_mo_init_98 rfl ?_
  refine V_iconst 0 d_mo_init_99 ?_
  refine V_bipush 115 d_mo_init_100 (by decide) ?_
  refine V_cast d_mo_init_102 (n := 5) ⟨by decide, by decide, by decide +kernel⟩ (by decide) (by decide) (by decide) ?_
  have hF20 := hF19.upI 223 0 115 (by decide)
  refine V_dup d_mo_init_103 rfl ?_
  refine V_iconst 1 d_mo_init_104 ?_
  refine V_bipush 104 d_mo_init_105 (by decide) ?_
  refine V_cast d_mo_init_107 (n := 5) ⟨by decide, by decide, by decide +kernel⟩ (by decide) (by decide) (by decide) ?_
  have hF21 := hF20.upI 223 1 104 (by decide)
  refine V_dup d_mo_init_108 rfl ?_
  refine V_iconst 2 d_mo_init_109 ?_
  refine V_bipush 97 d_mo_init_110 (by decide) ?_
  refine V_cast d_mo_init_112 (n := 5) ⟨by decide, by decide, by decide +kernel⟩ (by decide) (by decide) (by decide) ?_
  have hF22 := hF21.upI 223 2 97 (by decide)
  refine V_dup d_mo_init_113 rfl ?_
  refine V_iconst 3 d_mo_init_114 ?_
  refine V_bipush 100 d_mo_init_115 (by decide) ?_
  refine V_cast d_mo_init_117 (n := 5) ⟨by decide, by decide, by decide +kernel⟩ (by decide) (by decide) (by decide) ?_
  have hF23 := hF22.upI 223 3 100 (by decide)
  refine V_dup d_mo_init_118 rfl ?_
  refine V_iconst 4 d_mo_init_119 ?_
  refine V_bipush 101 d_mo_init_120 (by decide) ?_
  refine V_cast d_mo_init_122 (n := 5) ⟨by decide, by decide, by decide +kernel⟩ (by decide) (by decide) (by decide) ?_
  have hF24 := hF23.upI 223 4 101 (by decide)
  refine V_putF (n := 76) d_mo_init_123 fl_mo_24 ⟨by decide, by decide, by decide +kernel⟩ rfl rfl rfl rfl (fun c hc => by cases hc; rfl) (by decide) ?_
  have hF25 := hF24.upR 219 11 223 (by decide)
  refine V_aload_0 d_mo_init_126 ?_
  refine V_iconst 3 d_mo_init_127 ?_
  refine I_ac (r := 224) 225 5 1620 d_mo_init_128 (by decide +kernel) rfl ⟨rfl, rfl, rfl, by decide, by decide⟩ hF25 (by decide) ?_
  have hF26 := hF25.mono 225 (by decide)
  refine V_dup d_mo_init_130 rfl ?_
  refine V_iconst 0 d_mo_init_131 ?_
  refine V_bipush 102 d_mo_init_132 (by decide) ?_
  refine V_cast d_mo_init_134 (n := 3) ⟨by decide, by decide, by decide +kernel⟩ (by decide) (by decide) (by decide) ?_
  have hF27 := hF26.upI 224 0 102 (by decide)
  refine V_dup d_mo_init_135 rfl ?_
  refine V_iconst 1 d_mo_init_136 ?_
  refine V_bipush 101 d_mo_init_137 (by decide) ?_
  refine V_cast d_mo_init_139 (n := 3) ⟨by decide, by decide, by decide +kernel⟩ (by decide) (by decide) (by decide) ?_
  have hF28 := hF27.upI 224 1 101 (by decide)
  refine V_dup d_mo_init_140 rfl ?_
  refine V_iconst 2 d_mo_init_141 ?_
  refine V_bipush 101 d_mo_init_142 (by decide) ?_
  refine V_cast d_mo_init_144 (n := 3) ⟨by decide, by decide, by decide +kernel⟩ (by decide) (by decide) (by decide) ?_
  have hF29 := hF28.upI 224 2 101 (by decide)
  refine V_putF (n := 76) d_mo_init_145 fl_mo_27 ⟨by decide, by decide, by decide +kernel⟩ rfl rfl rfl rfl (fun c hc => by cases hc; rfl) (by decide) ?_
  have hF30 := hF29.upR 219 12 224 (by decide)
  refine V_aload_0 d_mo_init_148 ?_
  refine V_iconst 5 d_mo_init_149 ?_
  refine I_ac (r := 225) 226 6 1625 d_mo_init_150 (by decide +kernel) rfl ⟨rfl, rfl, rfl, by decide, by decide⟩ hF30 (by decide) ?_
  have hF31 := hF30.mono 226 (by decide)
  refine V_dup d_mo_init_152 rfl ?_
  refine V_iconst 0 d_mo_init_153 ?_
  refine V_bipush 102 d_mo_init_154 (by decide) ?_
  refine V_cast d_mo_init_156 (n := 5) ⟨by decide, by decide, by decide +kernel⟩ (by decide) (by decide) (by decide) ?_
  have hF32 := hF31.upI 225 0 102 (by decide)
  refine V_dup d_mo_init_157 rfl ?_
  refine V_iconst 1 d_mo_init_158 ?_
  refine V_bipush 97 d_mo_init_159 (by decide) ?_
  refine V_cast d_mo_init_161 (n := 5) ⟨by decide, by decide, by decide +kernel⟩ (by decide) (by decide) (by decide) ?_
  have hF33 := hF32.upI 225 1 97 (by decide)
  refine V_dup d_mo_init_162 rfl ?_
  refine V_iconst 2 d_mo_init_163 ?_
  refine V_bipush 107 d_mo_init_164 (by decide) ?_
  refine V_cast d_mo_init_166 (n := 5) ⟨by decide, by decide, by decide +kernel⟩ (by decide) (by decide) (by decide) ?_
  have hF34 := hF33.upI 225 2 107 (by decide)
  refine V_dup d_mo_init_167 rfl ?_
  refine V_iconst 3 d_mo_init_168 ?_
  refine V_bipush 101 d_mo_init_169 (by decide) ?_
  refine V_cast d_mo_init_171 (n := 5) ⟨by decide, by decide, by decide +kernel⟩ (by decide) (by decide) (by decide) ?_
  have hF35 := hF34.upI 225 3 101 (by decide)
  refine V_dup d_mo_init_172 rfl ?_
  refine V_iconst 4 d_mo_init_173 ?_
  refine V_bipush 115 d_mo_init_174 (by decide) ?_
  refine V_cast d_mo_init_176 (n := 5) ⟨by decide, by decide, by decide +kernel⟩ (by decide) (by decide) (by decide) ?_
  have hF36 := hF35.upI 225 4 115 (by decide)
  refine V_putF (n := 76) d_mo_init_177 fl_mo_30 ⟨by decide, by decide, by decide +kernel⟩ rfl rfl rfl rfl (fun c hc => by cases hc; rfl) (by decide) ?_
  have hF37 := hF36.upR 219 13 225 (by decide)
  refine V_aload_0 d_mo_init_180 ?_
  refine V_iconst 5 d_mo_init_181 ?_
  refine I_ac (r := 226) 227 7 1630 d_mo_init_182 (by decide +kernel) rfl ⟨rfl, rfl, rfl, by decide, by decide⟩ hF37 (by decide) ?_
  have hF38 := hF37.mono 227 (by decide)
  refine V_dup d_mo_init_184 rfl ?_
  refine V_iconst 0 d_mo_init_185 ?_
  refine V_bipush 112 d_mo_init_186 (by decide) ?_
  refine V_cast d_mo_init_188 (n := 5) ⟨by decide, by decide, by decide +kernel⟩ (by decide) (by decide) (by decide) ?_
  have hF39 := hF38.upI 226 0 112 (by decide)
  refine V_dup d_mo_init_189 rfl ?_
  refine V_iconst 1 d_mo_init_190 ?_
  refine V_bipush 108 d_mo_init_191 (by decide) ?_
  refine V_cast d_mo_init_193 (n := 5) ⟨by decide, by decide, by decide +kernel⟩ (by decide) (by decide) (by decide) ?_
  have hF40 := hF39.upI 226 1 108 (by decide)
  refine V_dup d_mo_init_194 rfl ?_
  refine V_iconst 2 d_mo_init_195 ?_
  refine V_bipush 97 d_mo_init_196 (by decide) ?_
  refine V_cast d_mo_init_198 (n := 5) ⟨by decide, by decide, by decide +kernel⟩ (by decide) (by decide) (by decide) ?_
  have hF41 := hF40.upI 226 2 97 (by decide)
  refine V_dup d_mo_init_199 rfl ?_
  refine V_iconst 3 d_mo_init_200 ?_
  refine V_bipush 99 d_mo_init_201 (by decide) ?_
  refine V_cast d_mo_init_203 (n := 5) ⟨by decide, by decide, by decide +kernel⟩ (by decide) (by decide) (by decide) ?_
  have hF42 := hF41.upI 226 3 99 (by decide)
  refine V_dup d_mo_init_204 rfl ?_
  refine V_iconst 4 d_mo_init_205 ?_
  refine V_bipush 101 d_mo_init_206 (by decide) ?_
  refine V_cast d_mo_init_208 (n := 5) ⟨by decide, by decide, by decide +kernel⟩ (by decide) (by decide) (by decide) ?_
  have hF43 := hF42.upI 226 4 101 (by decide)
  refine V_putF (n := 76) d_mo_init_209 fl_mo_33 ⟨by decide, by decide, by decide +kernel⟩ rfl rfl rfl rfl (fun c hc => by cases hc; rfl) (by decide) ?_
  have hF44 := hF43.upR 219 14 226 (by decide)
  refine V_aload_0 d_mo_init_212 ?_
  refine V_iconst 4 d_mo_init_213 ?_
  refine I_ac (r := 227) 228 8 1634 d_mo_init_214 (by decide +kernel) rfl ⟨rfl, rfl, rfl, by decide, by decide⟩ hF44 (by decide) ?_
  have hF45 := hF44.mono 228 (by decide)
  refine V_dup d_mo_init_216 rfl ?_
  refine V_iconst 0 d_mo_init_217 ?_
  refine V_bipush 114 d_mo_init_218 (by decide) ?_
  refine V_cast d_mo_init_220 (n := 4) ⟨by decide, by decide, by decide +kernel⟩ (by decide) (by decide) (by decide) ?_
  have hF46 := hF45.upI 227 0 114 (by decide)
  refine V_dup d_mo_init_221 rfl ?_
  refine V_iconst 1 d_mo_init_222 ?_
  refine V_bipush 111 d_mo_init_223 (by decide) ?_
  refine V_cast d_mo_init_225 (n := 4) ⟨by decide, by decide, by decide +kernel⟩ (by decide) (by decide) (by decide) ?_
  have hF47 := hF46.upI 227 1 111 (by decide)
  refine V_dup d_mo_init_226 rfl ?_
  refine V_iconst 2 d_mo_init_227 ?_
  refine V_bipush 97 d_mo_init_228 (by decide) ?_
  refine V_cast d_mo_init_230 (n := 4) ⟨by decide, by decide, by decide +kernel⟩ (by decide) (by decide) (by decide) ?_
  have hF48 := hF47.upI 227 2 97 (by decide)
  refine V_dup d_mo_init_231 rfl ?_
  refine V_iconst 3 d_mo_init_232 ?_
  refine V_bipush 100 d_mo_init_233 (by decide) ?_
  refine V_cast d_mo_init_235 (n := 4) ⟨by decide, by decide, by decide +kernel⟩ (by decide) (by decide) (by decide) ?_
  have hF49 := hF48.upI 227 3 100 (by decide)
  refine V_putF (n := 76) d_mo_init_236 fl_mo_36 ⟨by decide, by decide, by decide +kernel⟩ rfl rfl rfl rfl (fun c hc => by cases hc; rfl) (by decide) ?_
  have hF50 := hF49.upR 219 15 227 (by decide)
  refine V_aload_0 d_mo_init_239 ?_
  refine V_iconst 4 d_mo_init_240 ?_
  refine I_ac (r := 228) 229 9 1638 d_mo_init_241 (by decide +kernel) rfl ⟨rfl, rfl, rfl, by decide, by decide⟩ hF50 (by decide) ?_
  have hF51 := hF50.mono 229 (by decide)
  refine V_dup d_mo_init_243 rfl ?_
  refine V_iconst 0 d_mo_init_244 ?_
  refine V_bipush 115 d_mo_init_245 (by decide) ?_
  refine V_cast d_mo_init_247 (n := 4) ⟨by decide, by decide, by decide +kernel⟩ (by decide) (by decide) (by decide) ?_
  have hF52 := hF51.upI 228 0 115 (by decide)
  refine V_dup d_mo_init_248 rfl ?_
  refine V_iconst 1 d_mo_init_249 ?_
  refine V_bipush 101 d_mo_init_250 (by decide) ?_
  refine V_cast d_mo_init_252 (n := 4) ⟨by decide, by decide, by decide +kernel⟩ (by decide) (by decide) (by decide) ?_
  have hF53 := hF52.upI 228 1 101 (by decide)
  refine V_dup d_mo_init_253 rfl ?_
  refine V_iconst 2 d_mo_init_254 ?_
  refine V_bipush 101 d_mo_init_255 (by decide) ?_
  refine V_cast d_mo_init_257 (n := 4) ⟨by decide, by decide, by decide +kernel⟩ (by decide) (by decide) (by decide) ?_
  have hF54 := hF53.upI 228 2 101 (by decide)
  refine V_dup d_mo_init_258 rfl ?_
  refine V_iconst 3 d_mo_init_259 ?_
  refine V_bipush 110 d_mo_init_260 (by decide) ?_
  refine V_cast d_mo_init_262 (n := 4) ⟨by decide, by decide, by decide +kernel⟩ (by decide) (by decide) (by decide) ?_
  have hF55 := hF54.upI 228 3 110 (by decide)
  refine V_putF (n := 76) d_mo_init_263 fl_mo_39 ⟨by decide, by decide, by decide +kernel⟩ rfl rfl rfl rfl (fun c hc => by cases hc; rfl) (by decide) ?_
  have hF56 := hF55.upR 219 16 228 (by decide)
  refine V_aload_0 d_mo_init_266 ?_
  refine V_iconst 2 d_mo_init_267 ?_
  refine I_ac (r := 229) 230 10 1640 d_mo_init_268 (by decide +kernel) rfl ⟨rfl, rfl, rfl, by decide, by decide⟩ hF56 (by decide) ?_
  have hF57 := hF56.mono 230 (by decide)
  refine V_dup d_mo_init_270 rfl ?_
  refine V_iconst 0 d_mo_init_271 ?_
  refine V_bipush 97 d_mo_init_272 (by decide) ?_
  refine V_cast d_mo_init_274 (n := 2) ⟨by decide, by decide, by decide +kernel⟩ (by decide) (by decide) (by decide) ?_
  have hF58 := hF57.upI 229 0 97 (by decide)
  refine V_dup d_mo_init_275 rfl ?_
  refine V_iconst 1 d_mo_init_276 ?_
  refine V_bipush 116 d_mo_init_277 (by decide) ?_
  refine V_cast d_mo_init_279 (n := 2) ⟨by decide, by decide, by decide +kernel⟩ (by decide) (by decide) (by decide) ?_
  have hF59 := hF58.upI 229 1 116 (by decide)
  refine V_putF (n := 76) d_mo_init_280 fl_mo_42 ⟨by decide, by decide, by decide +kernel⟩ rfl rfl rfl rfl (fun c hc => by cases hc; rfl) (by decide) ?_
  have hF60 := hF59.upR 219 17 229 (by decide)
  refine V_aload_0 d_mo_init_283 ?_
  refine V_iconst 4 d_mo_init_284 ?_
  refine I_ac (r := 230) 231 11 1644 d_mo_init_285 (by decide +kernel) rfl ⟨rfl, rfl, rfl, by decide, by decide⟩ hF60 (by decide) ?_
  have hF61 := hF60.mono 231 (by decide)
  refine V_dup d_mo_init_287 rfl ?_
  refine V_iconst 0 d_mo_init_288 ?_
  refine V_bipush 104 d_mo_init_289 (by decide) ?_
  refine V_cast d_mo_init_291 (n := 4) ⟨by decide, by decide, by decide +kernel⟩ (by decide) (by decide) (by decide) ?_
  have hF62 := hF61.upI 230 0 104 (by decide)
  refine V_dup d_mo_init_292 rfl ?_
  refine V_iconst 1 d_mo_init_293 ?_
  refine V_bipush 111 d_mo_init_294 (by decide) ?_
  refine V_cast d_mo_init_296 (n := 4) ⟨by decide, by decide, by decide +kernel⟩ (by decide) (by decide) (by decide) ?_
  have hF63 := hF62.upI 230 1 111 (by decide)
  refine V_dup d_mo_init_297 rfl ?_
  refine V_iconst 2 d_mo_init_298 ?_
  refine V_bipush 117 d_mo_init_299 (by decide) ?_
  refine V_cast d_mo_init_301 (n := 4) ⟨by decide, by decide, by decide +kernel⟩ (by decide) (by decide) (by decide) ?_
  have hF64 := hF63.upI 230 2 117 (by decide)
  refine V_dup d_mo_init_302 rfl ?_
  refine V_iconst 3 d_mo_init_303 ?_
  refine V_bipush 114 d_mo_init_304 (by decide) ?_
  refine V_cast d_mo_init_306 (n := 4) ⟨by decide, by decide, by decide +kernel⟩ (by decide) (by decide) (by decide) ?_
  have hF65 := hF64.upI 230 3 114 (by decide)
  refine V_putF (n := 76) d_mo_init_307 fl_mo_45 ⟨by decide, by decide, by decide +kernel⟩ rfl rfl rfl rfl (fun c hc => by cases hc; rfl) (by decide) ?_
  have hF66 := hF65.upR 219 18 230 (by decide)
  refine V_aload_0 d_mo_init_310 ?_
  refine V_iconst 5 d_mo_init_311 ?_
  refine I_ac (r := 231) 232 12 1649 d_mo_init_312 (by decide +kernel) rfl ⟨rfl, rfl, rfl, by decide, by decide⟩ hF66 (by decide) ?_
  have hF67 := hF66.mono 232 (by decide)
  refine V_dup d_mo_init_314 rfl ?_
  refine V_iconst 0 d_mo_init_315 ?_
  refine V_bipush 108 d_mo_init_316 (by decide) ?_
  refine V_cast d_mo_init_318 (n := 5) ⟨by decide, by decide, by decide +kernel⟩ (by decide) (by decide) (by decide) ?_
  have hF68 := hF67.upI 231 0 108 (by decide)
  refine V_dup d_mo_init_319 rfl ?_
  refine V_iconst 1 d_mo_init_320 ?_
  refine V_bipush 105 d_mo_init_321 (by decide) ?_
  refine V_cast d_mo_init_323 (n := 5) ⟨by decide, by decide, by decide +kernel⟩ (by decide) (by decide) (by decide) ?_
  have hF69 := hF68.upI 231 1 105 (by decide)
  refine V_dup d_mo_init_324 rfl ?_
  refine V_iconst 2 d_mo_init_325 ?_
  refine V_bipush 103 d_mo_init_326 (by decide) ?_
  refine V_cast d_mo_init_328 (n := 5) ⟨by decide, by decide, by decide +kernel⟩ (by decide) (by decide) (by decide) ?_
  have hF70 := hF69.upI 231 2 103 (by decide)
  refine V_dup d_mo_init_329 rfl ?_
  refine V_iconst 3 d_mo_init_330 ?_
  refine V_bipush 104 d_mo_init_331 (by decide) ?_
  refine V_cast d_mo_init_333 (n := 5) ⟨by decide, by decide, by decide +kernel⟩ (by decide) (by decide) (by decide) ?_
  have hF71 := hF70.upI 231 3 104 (by decide)
  refine V_dup d_mo_init_334 rfl ?_
  refine V_iconst 4 d_mo_init_335 ?_
  refine V_bipush 116 d_mo_init_336 (by decide) ?_
  refine V_cast d_mo_init_338 (n := 5) ⟨by decide, by decide, by decide +kernel⟩ (by decide) (by decide) (by decide) ?_
  have hF72 := hF71.upI 231 4 116 (by decide)
  refine V_putF (n := 76) d_mo_init_339 fl_mo_48 ⟨by decide, by decide, by decide +kernel⟩ rfl rfl rfl rfl (fun c hc => by cases hc; rfl) (by decide) ?_
  have hF73 := hF72.upR 219 19 231 (by decide)
  refine V_aload_0 d_mo_init_342 ?_
  refine V_iconst 4 d_mo_init_343 ?_
  refine I_ac (r := 232) 233 13 1653 d_mo_init_344 (by decide +kernel) rfl ⟨rfl, rfl, rfl, by decide, by decide⟩ hF73 (by decide) ?_
  have hF74 := hF73.mono 233 (by decide)
  refine V_dup d_mo_init_346 rfl ?_
  refine V_iconst 0 d_mo_init_347 ?_
  refine V_bipush 114 d_mo_init_348 (by decide) ?_
  refine V_cast d_mo_init_350 (n := 4) ⟨by decide, by decide, by decide +kernel⟩ (by decide) (by decide) (by decide) ?_
  have hF75 := hF74.upI 232 0 114 (by decide)
  refine V_dup d_mo_init_351 rfl ?_
  refine V_iconst 1 d_mo_init_352 ?_
  refine V_bipush 97 d_mo_init_353 (by decide) ?_
  refine V_cast d_mo_init_355 (n := 4) ⟨by decide, by decide, by decide +kernel⟩ (by decide) (by decide) (by decide) ?_
  have hF76 := hF75.upI 232 1 97 (by decide)
  refine V_dup d_mo_init_356 rfl ?_
  refine V_iconst 2 d_mo_init_357 ?_
  refine V_bipush 105 d_mo_init_358 (by decide) ?_
  refine V_cast d_mo_init_360 (n := 4) ⟨by decide, by decide, by decide +kernel⟩ (by decide) (by decide) (by decide) ?_
  have hF77 := hF76.upI 232 2 105 (by decide)
  refine V_dup d_mo_init_361 rfl ?_
  refine V_iconst 3 d_mo_init_362 ?_
  refine V_bipush 110 d_mo_init_363 (by decide) ?_
  refine V_cast d_mo_init_365 (n := 4) ⟨by decide, by decide, by decide +kernel⟩ (by decide) (by decide) (by decide) ?_
  have hF78 := hF77.upI 232 3 110 (by decide)
  refine V_putF (n := 76) d_mo_init_366 fl_mo_51 ⟨by decide, by decide, by decide +kernel⟩ rfl rfl rfl rfl (fun c hc => by cases hc; rfl) (by decide) ?_
  have hF79 := hF78.upR 219 20 232 (by decide)
  refine V_aload_0 d_mo_init_369 ?_
  refine V_iconst 3 d_mo_init_370 ?_
  refine I_ac (r := 233) 234 14 1656 d_mo_init_371 (by decide +kernel) rfl ⟨rfl, rfl, rfl, by decide, by decide⟩ hF79 (by decide) ?_
  have hF80 := hF79.mono 234 (by decide)
  refine V_dup d_mo_init_373 rfl ?_
  refine V_iconst 0 d_mo_init_374 ?_
  refine V_bipush 100 d_mo_init_375 (by decide) ?_
  refine V_cast d_mo_init_377 (n := 3) ⟨by decide, by decide, by decide +kernel⟩ (by decide) (by decide) (by decide) ?_
  have hF81 := hF80.upI 233 0 100 (by decide)
  refine V_dup d_mo_init_378 rfl ?_
  refine V_iconst 1 d_mo_init_379 ?_
  refine V_bipush 114 d_mo_init_380 (by decide) ?_
  refine V_cast d_mo_init_382 (n := 3) ⟨by decide, by decide, by decide +kernel⟩ (by decide) (by decide) (by decide) ?_
  have hF82 := hF81.upI 233 1 114 (by decide)
  refine V_dup d_mo_init_383 rfl ?_
  refine V_iconst 2 d_mo_init_384 ?_
  refine V_bipush 121 d_mo_init_385 (by decide) ?_
  refine V_cast d_mo_init_387 (n := 3) ⟨by decide, by decide, by decide +kernel⟩ (by decide) (by decide) (by decide) ?_
  have hF83 := hF82.upI 233 2 121 (by decide)
  refine V_putF (n := 76) d_mo_init_388 fl_mo_54 ⟨by decide, by decide, by decide +kernel⟩ rfl rfl rfl rfl (fun c hc => by cases hc; rfl) (by decide) ?_
  have hF84 := hF83.upR 219 21 233 (by decide)
  refine V_aload_0 d_mo_init_391 ?_
  refine V_iconst 5 d_mo_init_392 ?_
  refine I_ac (r := 234) 235 15 1661 d_mo_init_393 (by decide +kernel) rfl ⟨rfl, rfl, rfl, by decide, by decide⟩ hF84 (by decide) ?_
  have hF85 := hF84.mono 235 (by decide)
  refine V_dup d_mo_init_395 rfl ?_
  refine V_iconst 0 d_mo_init_396 ?_
  refine V_bipush 112 d_mo_init_397 (by decide) ?_
  refine V_cast d_mo_init_399 (n := 5) ⟨by decide, by decide, by decide +kernel⟩ (by decide) (by decide) (by decide) ?_
  have hF86 := hF85.upI 234 0 112 (by decide)
  refine V_dup d_mo_init_400 rfl ?_
  refine V_iconst 1 d_mo_init_401 ?_
  refine V_bipush 114 d_mo_init_402 (by decide) ?_
  refine V_cast d_mo_init_404 (n := 5) ⟨by decide, by decide, by decide +kernel⟩ (by decide) (by decide) (by decide) ?_
  have hF87 := hF86.upI 234 1 114 (by decide)
  refine V_dup d_mo_init_405 rfl ?_
  refine V_iconst 2 d_mo_init_406 ?_
  refine V_bipush 105 d_mo_init_407 (by decide) ?_
  refine V_cast d_mo_init_409 (n := 5) ⟨by decide, by decide, by decide +kernel⟩ (by decide) (by decide) (by decide) ?_
  have hF88 := hF87.upI 234 2 105 (by decide)
  refine V_dup d_mo_init_410 rfl ?_
  refine V_iconst 3 d_mo_init_411 ?_
  refine V_bipush 99 d_mo_init_412 (by decide) ?_
  refine V_cast d_mo_init_414 (n := 5) ⟨by decide, by decide, by decide +kernel⟩ (by decide) (by decide) (by decide) ?_
  have hF89 := hF88.upI 234 3 99 (by decide)
  refine V_dup d_mo_init_415 rfl ?_
  refine V_iconst 4 d_mo_init_416 ?_
  refine V_bipush 101 d_mo_init_417 (by decide) ?_
  refine V_cast d_mo_init_419 (n := 5) ⟨by decide, by decide, by decide +kernel⟩ (by decide) (by decide) (by decide) ?_
  have hF90 := hF89.upI 234 4 101 (by decide)
  refine V_putF (n := 76) d_mo_init_420 fl_mo_57 ⟨by decide, by decide, by decide +kernel⟩ rfl rfl rfl rfl (fun c hc => by cases hc; rfl) (by decide) ?_
  have hF91 := hF90.upR 219 22 234 (by decide)
  refine V_aload_0 d_mo_init_423 ?_
  refine V_iconst 4 d_mo_init_424 ?_
  refine I_ac (r := 235) 236 16 1665 d_mo_init_425 (by decide +kernel) rfl ⟨rfl, rfl, rfl, by decide, by decide⟩ hF91 (by decide) ?_
  have hF92 := hF91.mono 236 (by decide)
  refine V_dup d_mo_init_427 rfl ?_
  refine V_iconst 0 d_mo_init_428 ?_
  refine V_bipush 119 d_mo_init_429 (by decide) ?_
  refine V_cast d_mo_init_431 (n := 4) ⟨by decide, by decide, by decide +kernel⟩ (by decide) (by decide) (by decide) ?_
  have hF93 := hF92.upI 235 0 119 (by decide)
  refine V_dup d_mo_init_432 rfl ?_
  refine V_iconst 1 d_mo_init_433 ?_
  refine V_bipush 104 d_mo_init_434 (by decide) ?_
  refine V_cast d_mo_init_436 (n := 4) ⟨by decide, by decide, by decide +kernel⟩ (by decide) (by decide) (by decide) ?_
  have hF94 := hF93.upI 235 1 104 (by decide)
  refine V_dup d_mo_init_437 rfl ?_
  refine V_iconst 2 d_mo_init_438 ?_
  refine V_bipush 101 d_mo_init_439 (by decide) ?_
  refine V_cast d_mo_init_441 (n := 4) ⟨by decide, by decide, by decide +kernel⟩ (by decide) (by decide) (by decide) ?_
  have hF95 := hF94.upI 235 2 101 (by decide)
  refine V_dup d_mo_init_442 rfl ?_
  refine V_iconst 3 d_mo_init_443 ?_
  refine V_bipush 110 d_mo_init_444 (by decide) ?_
  refine V_cast d_mo_init_446 (n := 4) ⟨by decide, by decide, by decide +kernel⟩ (by decide) (by decide) (by decide) ?_
  have hF96 := hF95.upI 235 3 110 (by decide)
  refine V_putF (n := 76) d_mo_init_447 fl_mo_60 ⟨by decide, by decide, by decide +kernel⟩ rfl rfl rfl rfl (fun c hc => by cases hc; rfl) (by decide) ?_
  have hF97 := hF96.upR 219 23 235 (by decide)
  refine V_aload_0 d_mo_init_450 ?_
  refine V_iconst 5 d_mo_init_451 ?_
  refine I_ac (r := 236) 237 17 1670 d_mo_init_452 (by decide +kernel) rfl ⟨rfl, rfl, rfl, by decide, by decide⟩ hF97 (by decide) ?_
  have hF98 := hF97.mono 237 (by decide)
  refine V_dup d_mo_init_454 rfl ?_
  refine V_iconst 0 d_mo_init_455 ?_
  refine V_bipush 116 d_mo_init_456 (by decide) ?_
  refine V_cast d_mo_init_458 (n := 5) ⟨by decide, by decide, by decide +kernel⟩ (by decide) (by decide) (by decide) ?_
  have hF99 := hF98.upI 236 0 116 (by decide)
  refine V_dup d_mo_init_459 rfl ?_
  refine V_iconst 1 d_mo_init_460 ?_
  refine V_bipush 105 d_mo_init_461 (by decide) ?_
  refine V_cast d_mo_init_463 (n := 5) ⟨by decide, by decide, by decide +kernel⟩ (by decide) (by decide) (by decide) ?_
  have hF100 := hF99.upI 236 1 105 (by decide)
  refine V_dup d_mo_init_464 rfl ?_
  refine V_iconst 2 d_mo_init_465 ?_
  refine V_bipush 116 d_mo_init_466 (by decide) ?_
  refine V_cast d_mo_init_468 (n := 5) ⟨by decide, by decide, by decide +kernel⟩ (by decide) (by decide) (by decide) ?_
  have hF101 := hF100.upI 236 2 116 (by decide)
  refine V_dup d_mo_init_469 rfl ?_
  refine V_iconst 3 d_mo_init_470 ?_
  refine V_bipush 104 d_mo_init_471 (by decide) ?_
  refine V_cast d_mo_init_473 (n := 5) ⟨by decide, by decide, by decide +kernel⟩ (by decide) (by decide) (by decide) ?_
  have hF102 := hF101.upI 236 3 104 (by decide)
  refine V_dup d_mo_init_474 rfl ?_
  refine V_iconst 4 d_mo_init_475 ?_
  refine V_bipush 101 d_mo_init_476 (by decide) ?_
  refine V_cast d_mo_init_478 (n := 5) ⟨by decide, by decide, by decide +kernel⟩ (by decide) (by decide) (by decide) ?_
  have hF103 := hF102.upI 236 4 101 (by decide)
  refine V_putF (n := 76) d_mo_init_479 fl_mo_63 ⟨by decide, by decide, by decide +kernel⟩ rfl rfl rfl rfl (fun c hc => by cases hc; rfl) (by decide) ?_
  have hF104 := hF103.upR 219 24 236 (by decide)
  refine V_aload_0 d_mo_init_482 ?_
  refine V_iconst 2 d_mo_init_483 ?_
  refine I_ac (r := 237) 238 18 1672 d_mo_init_484 (by decide +kernel) rfl ⟨rfl, rfl, rfl, by decide, by decide⟩ hF104 (by decide) ?_
  have hF105 := hF104.mono 238 (by decide)
  refine V_dup d_mo_init_486 rfl ?_
  refine V_iconst 0 d_mo_init_487 ?_
  refine V_bipush 111 d_mo_init_488 (by decide) ?_
  refine V_cast d_mo_init_490 (n := 2) ⟨by decide, by decide, by decide +kernel⟩ (by decide) (by decide) (by decide) ?_
  have hF106 := hF105.upI 237 0 111 (by decide)
  refine V_dup d_mo_init_491 rfl ?_
  refine V_iconst 1 d_mo_init_492 ?_
  refine V_bipush 114 d_mo_init_493 (by decide) ?_
  refine V_cast d_mo_init_495 (n := 2) ⟨by decide, by decide, by decide +kernel⟩ (by decide) (by decide) (by decide) ?_
  have hF107 := hF106.upI 237 1 114 (by decide)
  refine V_putF (n := 76) d_mo_init_496 fl_mo_66 ⟨by decide, by decide, by decide +kernel⟩ rfl rfl rfl rfl (fun c hc => by cases hc; rfl) (by decide) ?_
  have hF108 := hF107.upR 219 25 237 (by decide)
  refine V_aload_0 d_mo_init_499 ?_
  refine V_iconst 3 d_mo_init_500 ?_
  refine I_ac (r := 238) 239 19 1675 d_mo_init_501 (by decide +kernel) rfl ⟨rfl, rfl, rfl, by decide, by decide⟩ hF108 (by decide) ?_
  have hF109 := hF108.mono 239 (by decide)
  refine V_dup d_mo_init_503 rfl ?_
  refine V_iconst 0 d_mo_init_504 ?_
  refine V_bipush 97 d_mo_init_505 (by decide) ?_
  refine V_cast d_mo_init_507 (n := 3) ⟨by decide, by decide, by decide +kernel⟩ (by decide) (by decide) (by decide) ?_
  have hF110 := hF109.upI 238 0 97 (by decide)
  refine V_dup d_mo_init_508 rfl ?_
  refine V_iconst 1 d_mo_init_509 ?_
  refine V_bipush 110 d_mo_init_510 (by decide) ?_
  refine V_cast d_mo_init_512 (n := 3) ⟨by decide, by decide, by decide +kernel⟩ (by decide) (by decide) (by decide) ?_
  have hF111 := hF110.upI 238 1 110 (by decide)
  refine V_dup d_mo_init_513 rfl ?_
  refine V_iconst 2 d_mo_init_514 ?_
  refine V_bipush 100 d_mo_init_515 (by decide) ?_
  refine V_cast d_mo_init_517 (n := 3) ⟨by decide, by decide, by decide +kernel⟩ (by decide) (by decide) (by decide) ?_
  have hF112 := hF111.upI 238 2 100 (by decide)
  refine V_putF (n := 76) d_mo_init_518 fl_mo_69 ⟨by decide, by decide, by decide +kernel⟩ rfl rfl rfl rfl (fun c hc => by cases hc; rfl) (by decide) ?_
  have hF113 := hF112.upR 219 26 238 (by decide)
  refine V_aload_0 d_mo_init_521 ?_
  refine V_iconst 3 d_mo_init_522 ?_
  refine I_ac (r := 239) 240 20 1678 d_mo_init_523 (by decide +kernel) rfl ⟨rfl, rfl, rfl, by decide, by decide⟩ hF113 (by decide) ?_
  have hF114 := hF113.mono 240 (by decide)
  refine V_dup d_mo_init_525 rfl ?_
  refine V_iconst 0 d_mo_init_526 ?_
  refine V_bipush 110 d_mo_init_527 (by decide) ?_
  refine V_cast d_mo_init_529 (n := 3) ⟨by decide, by decide, by decide +kernel⟩ (by decide) (by decide) (by decide) ?_
  have hF115 := hF114.upI 239 0 110 (by decide)
  refine V_dup d_mo_init_530 rfl ?_
  refine V_iconst 1 d_mo_init_531 ?_
  refine V_bipush 111 d_mo_init_532 (by decide) ?_
  refine V_cast d_mo_init_534 (n := 3) ⟨by decide, by decide, by decide +kernel⟩ (by decide) (by decide) (by decide) ?_
  have hF116 := hF115.upI 239 1 111 (by decide)
  refine V_dup d_mo_init_535 rfl ?_
  refine V_iconst 2 d_mo_init_536 ?_
  refine V_bipush 116 d_mo_init_537 (by decide) ?_
  refine V_cast d_mo_init_539 (n := 3) ⟨by decide, by decide, by decide +kernel⟩ (by decide) (by decide) (by decide) ?_
  have hF117 := hF116.upI 239 2 116 (by decide)
  refine V_putF (n := 76) d_mo_init_540 fl_mo_72 ⟨by decide, by decide, by decide +kernel⟩ rfl rfl rfl rfl (fun c hc => by cases hc; rfl) (by decide) ?_
  have hF118 := hF117.upR 219 27 239 (by decide)
  refine V_aload_0 d_mo_init_543 ?_
  refine V_iconst 3 d_mo_init_544 ?_
  refine I_ac (r := 240) 241 21 1681 d_mo_init_545 (by decide +kernel) rfl ⟨rfl, rfl, rfl, by decide, by decide⟩ hF118 (by decide) ?_
  have hF119 := hF118.mono 241 (by decide)
  refine V_dup d_mo_init_547 rfl ?_
  refine V_iconst 0 d_mo_init_548 ?_
  refine V_bipush 97 d_mo_init_549 (by decide) ?_
  refine V_cast d_mo_init_551 (n := 3) ⟨by decide, by decide, by decide +kernel⟩ (by decide) (by decide) (by decide) ?_
  have hF120 := hF119.upI 240 0 97 (by decide)
  refine V_dup d_mo_init_552 rfl ?_
  refine V_iconst 1 d_mo_init_553 ?_
  refine V_bipush 108 d_mo_init_554 (by decide) ?_
  refine V_cast d_mo_init_556 (n := 3) ⟨by decide, by decide, by decide +kernel⟩ (by decide) (by decide) (by decide) ?_
  have hF121 := hF120.upI 240 1 108 (by decide)
  refine V_dup d_mo_init_557 rfl ?_
  refine V_iconst 2 d_mo_init_558 ?_
  refine V_bipush 108 d_mo_init_559 (by decide) ?_
  refine V_cast d_mo_init_561 (n := 3) ⟨by decide, by decide, by decide +kernel⟩ (by decide) (by decide) (by decide) ?_
  have hF122 := hF121.upI 240 2 108 (by decide)
  refine V_putF (n := 76) d_mo_init_562 fl_mo_75 ⟨by decide, by decide, by decide +kernel⟩ rfl rfl rfl rfl (fun c hc => by cases hc; rfl) (by decide) ?_
  have hF123 := hF122.upR 219 28 240 (by decide)
  refine V_aload_0 d_mo_init_565 ?_
  refine V_iconst 3 d_mo_init_566 ?_
  refine I_ac (r := 241) 242 22 1684 d_mo_init_567 (by decide +kernel) rfl ⟨rfl, rfl, rfl, by decide, by decide⟩ hF123 (by decide) ?_
  have hF124 := hF123.mono 242 (by decide)
  refine V_dup d_mo_init_569 rfl ?_
  refine V_iconst 0 d_mo_init_570 ?_
  refine V_bipush 119 d_mo_init_571 (by decide) ?_
  refine V_cast d_mo_init_573 (n := 3) ⟨by decide, by decide, by decide +kernel⟩ (by decide) (by decide) (by decide) ?_
  have hF125 := hF124.upI 241 0 119 (by decide)
  refine V_dup d_mo_init_574 rfl ?_
  refine V_iconst 1 d_mo_init_575 ?_
  refine V_bipush 101 d_mo_init_576 (by decide) ?_
  refine V_cast d_mo_init_578 (n := 3) ⟨by decide, by decide, by decide +kernel⟩ (by decide) (by decide) (by decide) ?_
  have hF126 := hF125.upI 241 1 101 (by decide)
  refine V_dup d_mo_init_579 rfl ?_
  refine V_iconst 2 d_mo_init_580 ?_
  refine V_bipush 116 d_mo_init_581 (by decide) ?_
  refine V_cast d_mo_init_583 (n := 3) ⟨by decide, by decide, by decide +kernel⟩ (by decide) (by decide) (by decide) ?_
  have hF127 := hF126.upI 241 2 116 (by decide)
  refine V_putF (n := 76) d_mo_init_584 fl_mo_78 ⟨by decide, by decide, by decide +kernel⟩ rfl rfl rfl rfl (fun c hc => by cases hc; rfl) (by decide) ?_
  have hF128 := hF127.upR 219 29 241 (by decide)
  refine V_aload_0 d_mo_init_587 ?_
  refine V_bipush 6 d_mo_init_588 (by decide) ?_
  refine I_ac (r := 242) 243 23 1690 d_mo_init_590 (by decide +kernel) rfl ⟨rfl, rfl, rfl, by decide, by decide⟩ hF128 (by decide) ?_
  have hF129 := hF128.mono 243 (by decide)
  refine V_dup d_mo_init_592 rfl ?_
  refine V_iconst 0 d_mo_init_593 ?_
  refine V_bipush 117 d_mo_init_594 (by decide) ?_
  refine V_cast d_mo_init_596 (n := 6) ⟨by decide, by decide, by decide +kernel⟩ (by decide) (by decide) (by decide) ?_
  have hF130 := hF129.upI 242 0 117 (by decide)
  refine V_dup d_mo_init_597 rfl ?_
  refine V_iconst 1 d_mo_init_598 ?_
  refine V_bipush 110 d_mo_init_599 (by decide) ?_
  refine V_cast d_mo_init_601 (n := 6) ⟨by decide, by decide, by decide +kernel⟩ (by decide) (by decide) (by decide) ?_
  have hF131 := hF130.upI 242 1 110 (by decide)
  refine V_dup d_mo_init_602 rfl ?_
  refine V_iconst 2 d_mo_init_603 ?_
  refine V_bipush 108 d_mo_init_604 (by decide) ?_
  refine V_cast d_mo_init_606 (n := 6) ⟨by decide, by decide, by decide +kernel⟩ (by decide) (by decide) (by decide) ?_
  have hF132 := hF131.upI 242 2 108 (by decide)
  refine V_dup d_mo_init_607 rfl ?_
  refine V_iconst 3 d_mo_init_608 ?_
  refine V_bipush 105 d_mo_init_609 (by decide) ?_
  refine V_cast d_mo_init_611 (n := 6) ⟨by decide, by decide, by decide +kernel⟩ (by decide) (by decide) (by decide) ?_
  have hF133 := hF132.upI 242 3 105 (by decide)
  refine V_dup d_mo_init_612 rfl ?_
  refine V_iconst 4 d_mo_init_613 ?_
  refine V_bipush 107 d_mo_init_614 (by decide) ?_
  refine V_cast d_mo_init_616 (n := 6) ⟨by decide, by decide, by decide +kernel⟩ (by decide) (by decide) (by decide) ?_
  have hF134 := hF133.upI 242 4 107 (by decide)
  refine V_dup d_mo_init_617 rfl ?_
  refine V_iconst 5 d_mo_init_618 ?_
  refine V_bipush 101 d_mo_init_619 (by decide) ?_
  refine V_cast d_mo_init_621 (n := 6) ⟨by decide, by decide, by decide +kernel⟩ (by decide) (by decide) (by decide) ?_
  have hF135 := hF134.upI 242 5 101 (by decide)
  refine V_putF (n := 76) d_mo_init_622 fl_mo_81 ⟨by decide, by decide, by decide +kernel⟩ rfl rfl rfl rfl (fun c hc => by cases hc; rfl) (by decide) ?_
  have hF136 := hF135.upR 219 30 242 (by decide)
  refine V_aload_0 d_mo_init_625 ?_
  refine V_iconst 4 d_mo_init_626 ?_
  refine I_ac (r := 243) 244 24 1694 d_mo_init_627 (by decide +kernel) rfl ⟨rfl, rfl, rfl, by decide, by decide⟩ hF136 (by decide) ?_
  have hF137 := hF136.mono 244 (by decide)
  refine V_dup d_mo_init_629 rfl ?_
  refine V_iconst 0 d_mo_init_630 ?_
  refine V_bipush 112 d_mo_init_631 (by decide) ?_
  refine V_cast d_mo_init_633 (n := 4) ⟨by decide, by decide, by decide +kernel⟩ (by decide) (by decide) (by decide) ?_
  have hF138 := hF137.upI 243 0 112 (by decide)
  refine V_dup d_mo_init_634 rfl ?_
  refine V_iconst 1 d_mo_init_635 ?_
  refine V_bipush 97 d_mo_init_636 (by decide) ?_
  refine V_cast d_mo_init_638 (n := 4) ⟨by decide, by decide, by decide +kernel⟩ (by decide) (by decide) (by decide) ?_
  have hF139 := hF138.upI 243 1 97 (by decide)
  refine V_dup d_mo_init_639 rfl ?_
  refine V_iconst 2 d_mo_init_640 ?_
  refine V_bipush 115 d_mo_init_641 (by decide) ?_
  refine V_cast d_mo_init_643 (n := 4) ⟨by decide, by decide, by decide +kernel⟩ (by decide) (by decide) (by decide) ?_
  have hF140 := hF139.upI 243 2 115 (by decide)
  refine V_dup d_mo_init_644 rfl ?_
  refine V_iconst 3 d_mo_init_645 ?_
  refine V_bipush 115 d_mo_init_646 (by decide) ?_
  refine V_cast d_mo_init_648 (n := 4) ⟨by decide, by decide, by decide +kernel⟩ (by decide) (by decide) (by decide) ?_
  have hF141 := hF140.upI 243 3 115 (by decide)
  refine V_putF (n := 76) d_mo_init_649 fl_mo_84 ⟨by decide, by decide, by decide +kernel⟩ rfl rfl rfl rfl (fun c hc => by cases hc; rfl) (by decide) ?_
  have hF142 := hF141.upR 219 31 243 (by decide)
  refine V_aload_0 d_mo_init_652 ?_
  refine V_iconst 3 d_mo_init_653 ?_
  refine I_ac (r := 244) 245 25 1697 d_mo_init_654 (by decide +kernel) rfl ⟨rfl, rfl, rfl, by decide, by decide⟩ hF142 (by decide) ?_
  have hF143 := hF142.mono 245 (by decide)
  refine V_dup d_mo_init_656 rfl ?_
  refine V_iconst 0 d_mo_init_657 ?_
  refine V_bipush 109 d_mo_init_658 (by decide) ?_
  refine V_cast d_mo_init_660 (n := 3) ⟨by decide, by decide, by decide +kernel⟩ (by decide) (by decide) (by decide) ?_
  have hF144 := hF143.upI 244 0 109 (by decide)
  refine V_dup d_mo_init_661 rfl ?_
  refine V_iconst 1 d_mo_init_662 ?_
  refine V_bipush 105 d_mo_init_663 (by decide) ?_
  refine V_cast d_mo_init_665 (n := 3) ⟨by decide, by decide, by decide +kernel⟩ (by decide) (by decide) (by decide) ?_
  have hF145 := hF144.upI 244 1 105 (by decide)
  refine V_dup d_mo_init_666 rfl ?_
  refine V_iconst 2 d_mo_init_667 ?_
  refine V_bipush 110 d_mo_init_668 (by decide) ?_
  refine V_cast d_mo_init_670 (n := 3) ⟨by decide, by decide, by decide +kernel⟩ (by decide) (by decide) (by decide) ?_
  have hF146 := hF145.upI 244 2 110 (by decide)
  refine V_putF (n := 76) d_mo_init_671 fl_mo_87 ⟨by decide, by decide, by decide +kernel⟩ rfl rfl rfl rfl (fun c hc => by cases hc; rfl) (by decide) ?_
  have hF147 := hF146.upR 219 32 244 (by decide)
  refine V_aload_0 d_mo_init_674 ?_
  refine V_iconst 3 d_mo_init_675 ?_
  refine I_ac (r := 245) 246 26 1700 d_mo_init_676 (by decide +kernel) rfl ⟨rfl, rfl, rfl, by decide, by decide⟩ hF147 (by decide) ?_
  have hF148 := hF147.mono 246 (by decide)
  refine V_dup d_mo_init_678 rfl ?_
  refine V_iconst 0 d_mo_init_679 ?_
  refine V_bipush 109 d_mo_init_680 (by decide) ?_
  refine V_cast d_mo_init_682 (n := 3) ⟨by decide, by decide, by decide +kernel⟩ (by decide) (by decide) (by decide) ?_
  have hF149 := hF148.upI 245 0 109 (by decide)
  refine V_dup d_mo_init_683 rfl ?_
  refine V_iconst 1 d_mo_init_684 ?_
  refine V_bipush 97 d_mo_init_685 (by decide) ?_
  refine V_cast d_mo_init_687 (n := 3) ⟨by decide, by decide, by decide +kernel⟩ (by decide) (by decide) (by decide) ?_
  have hF150 := hF149.upI 245 1 97 (by decide)
  refine V_dup d_mo_init_688 rfl ?_
  refine V_iconst 2 d_mo_init_689 ?_
  refine V_bipush 120 d_mo_init_690 (by decide) ?_
  refine V_cast d_mo_init_692 (n := 3) ⟨by decide, by decide, by decide +kernel⟩ (by decide) (by decide) (by decide) ?_
  have hF151 := hF150.upI 245 2 120 (by decide)
  refine V_putF (n := 76) d_mo_init_693 fl_mo_90 ⟨by decide, by decide, by decide +kernel⟩ rfl rfl rfl rfl (fun c hc => by cases hc; rfl) (by decide) ?_
  have hF152 := hF151.upR 219 33 245 (by decide)
  refine V_aload_0 d_mo_init_696 ?_
  refine V_bipush 14 d_mo_init_697 (by decide) ?_
  refine I_ai (r := 246) 247 27 1714 d_mo_init_699 (by decide +kernel) rfl ⟨rfl, rfl, rfl, by decide, by decide⟩ hF152 (by decide) ?_
  have hF153 := hF152.mono 247 (by decide)
  refine V_putF (n := 76) d_mo_init_701 fl_mo_93 ⟨by decide, by decide, by decide +kernel⟩ rfl rfl rfl rfl (fun c hc => by cases hc; rfl) (by decide) ?_
  have hF154 := hF153.upR 219 35 246 (by decide)
  refine V_aload_0 d_mo_init_704 ?_
  refine V_bipush 64 d_mo_init_705 (by decide) ?_
  refine I_al (r := 247) 248 28 1778 d_mo_init_707 (by decide +kernel) rfl ⟨rfl, rfl, rfl, by decide, by decide⟩ hF154 (by decide) ?_
  have hF155 := hF154.mono 248 (by decide)
  refine V_putF (n := 76) d_mo_init_709 fl_mo_96 ⟨by decide, by decide, by decide +kernel⟩ rfl rfl rfl rfl (fun c hc => by cases hc; rfl) (by decide) ?_
  have hF156 := hF155.upR 219 36 247 (by decide)
  refine V_aload_0 d_mo_init_712 ?_
  refine V_bipush 24 d_mo_init_713 (by decide) ?_
  refine I_ai (r := 248) 249 29 1802 d_mo_init_715 (by decide +kernel) rfl ⟨rfl, rfl, rfl, by decide, by decide⟩ hF156 (by decide) ?_
  have hF157 := hF156.mono 249 (by decide)
  refine V_putF (n := 76) d_mo_init_717 fl_mo_100 ⟨by decide, by decide, by decide +kernel⟩ rfl rfl rfl rfl (fun c hc => by cases hc; rfl) (by decide) ?_
  have hF158 := hF157.upR 219 37 248 (by decide)
  refine V_aload_0 d_mo_init_720 ?_
  refine V_bipush 96 d_mo_init_721 (by decide) ?_
  refine I_ai (r := 249) 250 30 1898 d_mo_init_723 (by decide +kernel) rfl ⟨rfl, rfl, rfl, by decide, by decide⟩ hF158 (by decide) ?_
  have hF159 := hF158.mono 250 (by decide)
  refine V_putF (n := 76) d_mo_init_725 fl_mo_103 ⟨by decide, by decide, by decide +kernel⟩ rfl rfl rfl rfl (fun c hc => by cases hc; rfl) (by decide) ?_
  have hF160 := hF159.upR 219 38 249 (by decide)
  refine V_aload_0 d_mo_init_728 ?_
  refine V_bipush 60 d_mo_init_729 (by decide) ?_
  refine I_ai (r := 250) 251 31 1958 d_mo_init_731 (by decide +kernel) rfl ⟨rfl, rfl, rfl, by decide, by decide⟩ hF160 (by decide) ?_
  have hF161 := hF160.mono 251 (by decide)
  refine V_putF (n := 76) d_mo_init_733 fl_mo_106 ⟨by decide, by decide, by decide +kernel⟩ rfl rfl rfl rfl (fun c hc => by cases hc; rfl) (by decide) ?_
  have hF162 := hF161.upR 219 39 250 (by decide)
  refine V_aload_0 d_mo_init_736 ?_
  refine V_bipush 60 d_mo_init_737 (by decide) ?_
  refine I_ai (r := 251) 252 32 2018 d_mo_init_739 (by decide +kernel) rfl ⟨rfl, rfl, rfl, by decide, by decide⟩ hF162 (by decide) ?_
  have hF163 := hF162.mono 252 (by decide)
  refine V_putF (n := 76) d_mo_init_741 fl_mo_109 ⟨by decide, by decide, by decide +kernel⟩ rfl rfl rfl rfl (fun c hc => by cases hc; rfl) (by decide) ?_
  have hF164 := hF163.upR 219 40 251 (by decide)
  refine V_aload_0 d_mo_init_744 ?_
  refine V_bipush 10 d_mo_init_745 (by decide) ?_
  refine I_ai (r := 252) 253 33 2028 d_mo_init_747 (by decide +kernel) rfl ⟨rfl, rfl, rfl, by decide, by decide⟩ hF164 (by decide) ?_
  have hF165 := hF164.mono 253 (by decide)
  refine V_putF (n := 76) d_mo_init_749 fl_mo_112 ⟨by decide, by decide, by decide +kernel⟩ rfl rfl rfl rfl (fun c hc => by cases hc; rfl) (by decide) ?_
  have hF166 := hF165.upR 219 41 252 (by decide)
  refine V_aload_0 d_mo_init_752 ?_
  refine V_sipush 128 d_mo_init_753 (by decide) ?_
  refine I_ai (r := 253) 254 34 2156 d_mo_init_756 (by decide +kernel) rfl ⟨rfl, rfl, rfl, by decide, by decide⟩ hF166 (by decide) ?_
  have hF167 := hF166.mono 254 (by decide)
  refine V_putF (n := 76) d_mo_init_758 fl_mo_115 ⟨by decide, by decide, by decide +kernel⟩ rfl rfl rfl rfl (fun c hc => by cases hc; rfl) (by decide) ?_
  have hF168 := hF167.upR 219 42 253 (by decide)
  refine V_aload_0 d_mo_init_761 ?_
  refine V_sipush 240 d_mo_init_762 (by decide) ?_
  refine I_ai (r := 254) 255 35 2396 d_mo_init_765 (by decide +kernel) rfl ⟨rfl, rfl, rfl, by decide, by decide⟩ hF168 (by decide) ?_
  have hF169 := hF168.mono 255 (by decide)
  refine V_putF (n := 76) d_mo_init_767 fl_mo_118 ⟨by decide, by decide, by decide +kernel⟩ rfl rfl rfl rfl (fun c hc => by cases hc; rfl) (by decide) ?_
  have hF170 := hF169.upR 219 43 254 (by decide)
  refine V_aload_0 d_mo_init_770 ?_
  refine V_sipush 3200 d_mo_init_771 (by decide) ?_
  refine I_ai (r := 255) 256 36 5596 d_mo_init_774 (by decide +kernel) rfl ⟨rfl, rfl, rfl, by decide, by decide⟩ hF170 (by decide) ?_
  have hF171 := hF170.mono 256 (by decide)
  refine V_putF (n := 76) d_mo_init_776 fl_mo_121 ⟨by decide, by decide, by decide +kernel⟩ rfl rfl rfl rfl (fun c hc => by cases hc; rfl) (by decide) ?_
  have hF172 := hF171.upR 219 47 255 (by decide)
  refine V_aload_0 d_mo_init_779 ?_
  refine V_sipush 1700 d_mo_init_780 (by decide) ?_
  refine I_ai (r := 256) 257 37 7296 d_mo_init_783 (by decide +kernel) rfl ⟨rfl, rfl, rfl, by decide, by decide⟩ hF172 (by decide) ?_
  have hF173 := hF172.mono 257 (by decide)
  refine V_putF (n := 76) d_mo_init_785 fl_mo_124 ⟨by decide, by decide, by decide +kernel⟩ rfl rfl rfl rfl (fun c hc => by cases hc; rfl) (by decide) ?_
  have hF174 := hF173.upR 219 49 256 (by decide)
  refine V_aload_0 d_mo_init_788 ?_
  refine V_bipush 12 d_mo_init_789 (by decide) ?_
  refine I_ai (r := 257) 258 38 7308 d_mo_init_791 (by decide +kernel) rfl ⟨rfl, rfl, rfl, by decide, by decide⟩ hF174 (by decide) ?_
  have hF175 := hF174.mono 258 (by decide)
  refine V_putF (n := 76) d_mo_init_793 fl_mo_127 ⟨by decide, by decide, by decide +kernel⟩ rfl rfl rfl rfl (fun c hc => by cases hc; rfl) (by decide) ?_
  have hF176 := hF175.upR 219 52 257 (by decide)
  refine V_aload_0 d_mo_init_796 ?_
  refine V_bipush 12 d_mo_init_797 (by decide) ?_
  refine I_ai (r := 258) 259 39 7320 d_mo_init_799 (by decide +kernel) rfl ⟨rfl, rfl, rfl, by decide, by decide⟩ hF176 (by decide) ?_
  have hF177 := hF176.mono 259 (by decide)
  refine V_putF (n := 76) d_mo_init_801 fl_mo_130 ⟨by decide, by decide, by decide +kernel⟩ rfl rfl rfl rfl (fun c hc => by cases hc; rfl) (by decide) ?_
  have hF178 := hF177.upR 219 53 258 (by decide)
  refine V_aload_0 d_mo_init_804 ?_
  refine V_bipush 12 d_mo_init_805 (by decide) ?_
  refine I_ai (r := 259) 260 40 7332 d_mo_init_807 (by decide +kernel) rfl ⟨rfl, rfl, rfl, by decide, by decide⟩ hF178 (by decide) ?_
  have hF179 := hF178.mono 260 (by decide)
  refine V_putF (n := 76) d_mo_init_809 fl_mo_133 ⟨by decide, by decide, by decide +kernel⟩ rfl rfl rfl rfl (fun c hc => by cases hc; rfl) (by decide) ?_
  have hF180 := hF179.upR 219 54 259 (by decide)
  refine V_aload_0 d_mo_init_812 ?_
  refine V_sipush 1700 d_mo_init_813 (by decide) ?_
  refine I_al (r := 260) 261 41 9032 d_mo_init_816 (by decide +kernel) rfl ⟨rfl, rfl, rfl, by decide, by decide⟩ hF180 (by decide) ?_
  have hF181 := hF180.mono 261 (by decide)
  refine V_putF (n := 76) d_mo_init_818 fl_mo_136 ⟨by decide, by decide, by decide +kernel⟩ rfl rfl rfl rfl (fun c hc => by cases hc; rfl) (by decide) ?_
  have hF182 := hF181.upR 219 56 260 (by decide)
  refine V_aload_0 d_mo_init_821 ?_
  refine V_bipush 6 d_mo_init_822 (by decide) ?_
  refine I_ai (r := 261) 262 42 9038 d_mo_init_824 (by decide +kernel) rfl ⟨rfl, rfl, rfl, by decide, by decide⟩ hF182 (by decide) ?_
  have hF183 := hF182.mono 262 (by decide)
  refine V_putF (n := 76) d_mo_init_826 fl_mo_139 ⟨by decide, by decide, by decide +kernel⟩ rfl rfl rfl rfl (fun c hc => by cases hc; rfl) (by decide) ?_
  have hF184 := hF183.upR 219 58 261 (by decide)
  refine V_aload_0 d_mo_init_829 ?_
  refine V_bipush 120 d_mo_init_830 (by decide) ?_
  refine I_ai (r := 262) 263 43 9158 d_mo_init_832 (by decide +kernel) rfl ⟨rfl, rfl, rfl, by decide, by decide⟩ hF184 (by decide) ?_
  have hF185 := hF184.mono 263 (by decide)
  refine V_putF (n := 76) d_mo_init_834 fl_mo_142 ⟨by decide, by decide, by decide +kernel⟩ rfl rfl rfl rfl (fun c hc => by cases hc; rfl) (by decide) ?_
  have hF186 := hF185.upR 219 59 262 (by decide)
  refine V_aload_0 d_mo_init_837 ?_
  refine V_bipush 120 d_mo_init_838 (by decide) ?_
  refine I_ai (r := 263) 264 44 9278 d_mo_init_840 (by decide +kernel) rfl ⟨rfl, rfl, rfl, by decide, by decide⟩ hF186 (by decide) ?_
  have hF187 := hF186.mono 264 (by decide)
  refine V_putF (n := 76) d_mo_init_842 fl_mo_145 ⟨by decide, by decide, by decide +kernel⟩ rfl rfl rfl rfl (fun c hc => by cases hc; rfl) (by decide) ?_
  have hF188 := hF187.upR 219 60 263 (by decide)
  refine V_aload_0 d_mo_init_845 ?_
  refine V_bipush 24 d_mo_init_846 (by decide) ?_
  refine I_ai (r := 264) 265 45 9302 d_mo_init_848 (by decide +kernel) rfl ⟨rfl, rfl, rfl, by decide, by decide⟩ hF188 (by decide) ?_
  have hF189 := hF188.mono 265 (by decide)
  refine V_putF (n := 76) d_mo_init_850 fl_mo_148 ⟨by decide, by decide, by decide +kernel⟩ rfl rfl rfl rfl (fun c hc => by cases hc; rfl) (by decide) ?_
  have hF190 := hF189.upR 219 61 264 (by decide)
  refine V_aload_0 d_mo_init_853 ?_
  refine V_bipush 24 d_mo_init_854 (by decide) ?_
  refine I_ai (r := 265) 266 46 9326 d_mo_init_856 (by decide +kernel) rfl ⟨rfl, rfl, rfl, by decide, by decide⟩ hF190 (by decide) ?_
  have hF191 := hF190.mono 266 (by decide)
  refine V_putF (n := 76) d_mo_init_858 fl_mo_151 ⟨by decide, by decide, by decide +kernel⟩ rfl rfl rfl rfl (fun c hc => by cases hc; rfl) (by decide) ?_
  have hF192 := hF191.upR 219 62 265 (by decide)
  refine V_aload_0 d_mo_init_861 ?_
  refine V_sipush 720 d_mo_init_862 (by decide) ?_
  refine I_ai (r := 266) 267 47 10046 d_mo_init_865 (by decide +kernel) rfl ⟨rfl, rfl, rfl, by decide, by decide⟩ hF192 (by decide) ?_
  have hF193 := hF192.mono 267 (by decide)
  refine V_putF (n := 76) d_mo_init_867 fl_mo_154 ⟨by decide, by decide, by decide +kernel⟩ rfl rfl rfl rfl (fun c hc => by cases hc; rfl) (by decide) ?_
  have hF194 := hF193.upR 219 63 266 (by decide)
  refine V_aload_0 d_mo_init_870 ?_
  refine V_bipush 24 d_mo_init_871 (by decide) ?_
  refine I_ai (r := 267) 268 48 10070 d_mo_init_873 (by decide +kernel) rfl ⟨rfl, rfl, rfl, by decide, by decide⟩ hF194 (by decide) ?_
  have hF195 := hF194.mono 268 (by decide)
  refine V_putF (n := 76) d_mo_init_875 fl_mo_157 ⟨by decide, by decide, by decide +kernel⟩ rfl rfl rfl rfl (fun c hc => by cases hc; rfl) (by decide) ?_
  have hF196 := hF195.upR 219 66 267 (by decide)
  refine V_aload_0 d_mo_init_878 ?_
  refine V_bipush 24 d_mo_init_879 (by decide) ?_
  refine I_ai (r := 268) 269 49 10094 d_mo_init_881 (by decide +kernel) rfl ⟨rfl, rfl, rfl, by decide, by decide⟩ hF196 (by decide) ?_
  have hF197 := hF196.mono 269 (by decide)
  refine V_putF (n := 76) d_mo_init_883 fl_mo_160 ⟨by decide, by decide, by decide +kernel⟩ rfl rfl rfl rfl (fun c hc => by cases hc; rfl) (by decide) ?_
  have hF198 := hF197.upR 219 67 268 (by decide)
  refine V_aload_0 d_mo_init_886 ?_
  refine V_bipush 24 d_mo_init_887 (by decide) ?_
  refine I_ai (r := 269) 270 50 10118 d_mo_init_889 (by decide +kernel) rfl ⟨rfl, rfl, rfl, by decide, by decide⟩ hF198 (by decide) ?_
  have hF199 := hF198.mono 270 (by decide)
  refine V_putF (n := 76) d_mo_init_891 fl_mo_163 ⟨by decide, by decide, by decide +kernel⟩ rfl rfl rfl rfl (fun c hc => by cases hc; rfl) (by decide) ?_
  have hF200 := hF199.upR 219 68 269 (by decide)
  refine V_aload_0 d_mo_init_894 ?_
  refine V_bipush 24 d_mo_init_895 (by decide) ?_
  refine I_ai (r := 270) 271 51 10142 d_mo_init_897 (by decide +kernel) rfl ⟨rfl, rfl, rfl, by decide, by decide⟩ hF200 (by decide) ?_
  have hF201 := hF200.mono 271 (by decide)
  refine V_putF (n := 76) d_mo_init_899 fl_mo_166 ⟨by decide, by decide, by decide +kernel⟩ rfl rfl rfl rfl (fun c hc => by cases hc; rfl) (by decide) ?_
  have hF202 := hF201.upR 219 70 270 (by decide)
  refine V_aload_0 d_mo_init_902 ?_
  refine V_bipush 13 d_mo_init_903 (by decide) ?_
  refine I_ai (r := 271) 272 52 10155 d_mo_init_905 (by decide +kernel) rfl ⟨rfl, rfl, rfl, by decide, by decide⟩ hF202 (by decide) ?_
  have hF203 := hF202.mono 272 (by decide)
  refine V_putF (n := 76) d_mo_init_907 fl_mo_169 ⟨by decide, by decide, by decide +kernel⟩ rfl rfl rfl rfl (fun c hc => by cases hc; rfl) (by decide) ?_
  have hF204 := hF203.upR 219 71 271 (by decide)
  refine V_aload_0 d_mo_init_910 ?_
  refine V_bipush 24 d_mo_init_911 (by decide) ?_
  refine I_ai (r := 272) 273 53 10179 d_mo_init_913 (by decide +kernel) rfl ⟨rfl, rfl, rfl, by decide, by decide⟩ hF204 (by decide) ?_
  have hF205 := hF204.mono 273 (by decide)
  refine V_putF (n := 76) d_mo_init_915 fl_mo_172 ⟨by decide, by decide, by decide +kernel⟩ rfl rfl rfl rfl (fun c hc => by cases hc; rfl) (by decide) ?_
  have hF206 := hF205.upR 219 72 272 (by decide)
  refine V_aload_0 d_mo_init_918 ?_
  refine V_lconst1 d_mo_init_919 ?_
  refine V_putL (n := 76) d_mo_init_920 fl_mo_175 ⟨by decide, by decide, by decide +kernel⟩ ?_
  have hF207 := hF206.upI 219 73 1 (by decide)
  refine V_aload_0 d_mo_init_923 ?_
  refine V_bipush 25 d_mo_init_924 (by decide) ?_
  refine I_ai (r := 273) 274 54 10204 d_mo_init_926 (by decide +kernel) rfl ⟨rfl, rfl, rfl, by decide, by decide⟩ hF207 (by decide) ?_
  have hF208 := hF207.mono 274 (by decide)
  refine V_putF (n := 76) d_mo_init_928 fl_mo_179 ⟨by decide, by decide, by decide +kernel⟩ rfl rfl rfl rfl (fun c hc => by cases hc; rfl) (by decide) ?_
  have hF209 := hF208.upR 219 74 273 (by decide)
  exact V_return d_mo_init_931 (hR 54 10204 (by decide) (by decide))
