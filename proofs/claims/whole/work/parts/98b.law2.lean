/-! the law: its cases (written by wip/gen/gen_law2.py) -/
/-- the law's method, whatever its name -/
def m_law (nm : String) : q_M := (⟨"HiredShadesLaw", nm, "([I)Z"⟩, code, 4, (some .boolean), 1000, 600000, 7302250)
theorem q_r32 (x : Int32) : -2147483648 ≤ x.toInt ∧ x.toInt < 2147483648 := by
  have h1 := Int32.le_toInt x
  have h2 := Int32.toInt_lt x
  omega
theorem q_and31 (x : Int) : 0 ≤ q_and x 31 ∧ q_and x 31 ≤ 31 := by
  unfold q_and
  have h : (Int32.ofInt x &&& Int32.ofInt 31).toBitVec.toNat ≤ 31 := by
    rw [Int32.toBitVec_and, BitVec.toNat_and]; exact Nat.le_trans Nat.and_le_right (by decide)
  have e : (Int32.ofInt x &&& Int32.ofInt 31).toInt = ((Int32.ofInt x &&& Int32.ofInt 31).toBitVec.toNat : Int) := by
    show BitVec.toInt _ = _
    exact BitVec.toInt_eq_toNat_of_lt (by omega)
  omega
section LAW2
variable {D : q_D} {C : q_C} {M : q_M} {nm : String} {pc cs ss b Ls : Nat} {xs : Nat → Int32} {L st : List Value} {f : q_F} {A : q_As} {g h i : Int}
theorem V_ald0 {r : List Value} {z : q_Z} (hd : decode (q_cc M) pc = .ok (.aload_n 0, 1)) (k : V D C M (pc + 1) (.ref b :: r) (.ref b :: st) z f) : V D C M pc (.ref b :: r) st z f := fun hC H ls locs hW hL hlo => lv_aload_n hC.1 hC.2.1 hd rfl (hL.at (k := 0) rfl (fun e => by cases e)) (k hC H ls locs hW hL hlo)
/-- what comes behind a case -/
def lawK (D : q_D) (C : q_C) (nm : String) (b : Nat) (i : Int) (cs ss : Nat) : Prop := ∀ (g h : Int) (f : q_F) (A : q_As), LI g f A → V D C (m_law nm) 1174 [.ref b, vr D 0, vr D 219, vi i] [] (274, RF g h, cs, ss) f
def lawH (D : q_D) (C : q_C) (b Ls : Nat) (xs : Nat → Int32) (i : Int) (cs ss : Nat) : Prop := q_sc D C b Ls xs ∧ (0 ≤ i ∧ i + 6 ≤ (Ls : Int) ∧ Ls ≤ 3072) ∧ cs ≤ 600000 ∧ ss ≤ 7302250
theorem V_lcG {M' : q_M} {rest : List Value} {q : Int} {idx ci N : Nat} {rf : Int → Int → Int} {Q : Value → q_Z → q_F → Prop} (hd : decode (q_cc M) pc = .ok (.invokevirtual idx, 3)) (hl : Cond.methodLink (q_y M).cls idx (q_y M') ∈ q_T) (hm : q_mi M' 0 ∧ q_mv M' ∧ q_m0 M' ∧ (q_cl[ci]?).map (·.1) = some (q_y M').cls) (hdp : q_dp M' + 1 ≤ q_dp M) (hwt : q_wt rest ≤ 8) (hq : 0 ≤ q ∧ q.toNat < N) (hk : q_k q = ci) (hroom : cs ≤ q_mc M ∧ ss ≤ q_ms M) (ok : Ok D M' [vr D q] (N, rf, 0, 0) f Q) (k : ∀ v z' f', Q v z' f' → V D C M (pc + 3) L ((q_o v).toList ++ rest) (z'.1, z'.2.1, cs, ss) f') : V D C M pc L (vr D q :: rest) (N, rf, cs, ss) f := by
  have e := hm.2.2.1
  refine V_callV (M' := M') (As := []) (ci := ci) hd hl hm.1 hm.2.1 hm.2.2.2 hdp rfl hwt hq.1 hq.2 hk (by rw [e.1, e.2]; exact hroom) ok (fun v z' f' h => ?_)
  rw [e.1, e.2]
  exact k v z' f' h

theorem lawc_0 (hH : lawH D C b Ls xs i cs ss) (hK : lawK D C nm b i cs ss) (hL : LI g f A) : V D C (m_law nm) 176 [.ref b, vr D 0, vr D 219, vi i] [] (274, RF g h, cs, ss) f := by
  have hi := hH.2.1
  refine V_aload_1 d_lw_law_176 ?_
  refine V_ald0 d_lw_law_177 ?_
  refine V_iload_3 d_lw_law_178 ?_
  refine V_iconst 1 d_lw_law_179 ?_
  refine V_iadd d_lw_law_180 ?_
  refine V_sld hH.1 d_lw_law_181 (by omega) (by omega) ?_
  refine V_ald0 d_lw_law_182 ?_
  refine V_iload_3 d_lw_law_183 ?_
  refine V_iconst 2 d_lw_law_184 ?_
  refine V_iadd d_lw_law_185 ?_
  refine V_sld hH.1 d_lw_law_186 (by omega) (by omega) ?_
  refine V_ald0 d_lw_law_187 ?_
  refine V_iload_3 d_lw_law_188 ?_
  refine V_iconst 3 d_lw_law_189 ?_
  refine V_iadd d_lw_law_190 ?_
  refine V_sld hH.1 d_lw_law_191 (by omega) (by omega) ?_
  refine V_ald0 d_lw_law_192 ?_
  refine V_iload_3 d_lw_law_193 ?_
  refine V_iconst 4 d_lw_law_194 ?_
  refine V_iadd d_lw_law_195 ?_
  refine V_sld hH.1 d_lw_law_196 (by omega) (by omega) ?_
  refine V_ald0 d_lw_law_197 ?_
  refine V_iload_3 d_lw_law_198 ?_
  refine V_iconst 5 d_lw_law_199 ?_
  refine V_iadd d_lw_law_200 ?_
  refine V_sld hH.1 d_lw_law_201 (by omega) (by omega) ?_
  refine V_lcI (M' := m_hs_feed) (As := [_, _, _, _, _]) (q := 0) (ci := 7) d_lw_law_202 ml_lw_13 mv_hs_feed (Nat.le_of_ble_eq_true rfl) rfl (Nat.le_of_ble_eq_true rfl) (by decide) (by decide +kernel) hH.2.2 (hsU_feed (g := g) (h := h) hL.1 hL.2.2.1) (fun y1 f1 hy => ?_)
  obtain ⟨rfl, s1, l1⟩ := hy
  refine V_aload_2 d_lw_law_205 ?_
  refine V_ald0 d_lw_law_206 ?_
  refine V_iload_3 d_lw_law_207 ?_
  refine V_iconst 1 d_lw_law_208 ?_
  refine V_iadd d_lw_law_209 ?_
  refine V_sld hH.1 d_lw_law_210 (by omega) (by omega) ?_
  refine V_ald0 d_lw_law_211 ?_
  refine V_iload_3 d_lw_law_212 ?_
  refine V_iconst 2 d_lw_law_213 ?_
  refine V_iadd d_lw_law_214 ?_
  refine V_sld hH.1 d_lw_law_215 (by omega) (by omega) ?_
  refine V_ald0 d_lw_law_216 ?_
  refine V_iload_3 d_lw_law_217 ?_
  refine V_iconst 3 d_lw_law_218 ?_
  refine V_iadd d_lw_law_219 ?_
  refine V_sld hH.1 d_lw_law_220 (by omega) (by omega) ?_
  refine V_ald0 d_lw_law_221 ?_
  refine V_iload_3 d_lw_law_222 ?_
  refine V_iconst 4 d_lw_law_223 ?_
  refine V_iadd d_lw_law_224 ?_
  refine V_sld hH.1 d_lw_law_225 (by omega) (by omega) ?_
  refine V_ald0 d_lw_law_226 ?_
  refine V_iload_3 d_lw_law_227 ?_
  refine V_iconst 5 d_lw_law_228 ?_
  refine V_iadd d_lw_law_229 ?_
  refine V_sld hH.1 d_lw_law_230 (by omega) (by omega) ?_
  refine V_lcI (M' := m_mo_feed) (As := [_, _, _, _, _]) (q := 219) (ci := 8) d_lw_law_231 ml_lw_17 mv_mo_feed (Nat.le_of_ble_eq_true rfl) rfl (Nat.le_of_ble_eq_true rfl) (by decide) (by decide +kernel) hH.2.2 (moU_feed (g := g) (h := h) (hL.m l1) hL.2.2.1) (fun y2 f2 hy => ?_)
  obtain ⟨rfl, s2, l2⟩ := hy
  exact V_same 1174 d_lw_law_234 (by decide) (hK _ _ _ _ (hL.step (W_feed hL.2.2.1 _ _ _ _ _) s1 l1 s2 l2))
theorem lawc_1 (hH : lawH D C b Ls xs i cs ss) (hK : lawK D C nm b i cs ss) (hL : LI g f A) : V D C (m_law nm) 239 [.ref b, vr D 0, vr D 219, vi i] [] (274, RF g h, cs, ss) f := by
  have hi := hH.2.1
  refine V_aload_1 d_lw_law_239 ?_
  refine V_ald0 d_lw_law_240 ?_
  refine V_iload_3 d_lw_law_241 ?_
  refine V_iconst 1 d_lw_law_242 ?_
  refine V_iadd d_lw_law_243 ?_
  refine V_sld hH.1 d_lw_law_244 (by omega) (by omega) ?_
  refine V_lcI (M' := m_hs_end) (As := [_]) (q := 0) (ci := 7) d_lw_law_245 ml_lw_18 mv_hs_end (Nat.le_of_ble_eq_true rfl) rfl (Nat.le_of_ble_eq_true rfl) (by decide) (by decide +kernel) hH.2.2 (hsU_end (g := g) (h := h) hL.1 hL.2.2.1 (q_r32 _)) (fun y1 f1 hy => ?_)
  obtain ⟨rfl, s1, l1⟩ := hy
  refine V_aload_2 d_lw_law_248 ?_
  refine V_ald0 d_lw_law_249 ?_
  refine V_iload_3 d_lw_law_250 ?_
  refine V_iconst 1 d_lw_law_251 ?_
  refine V_iadd d_lw_law_252 ?_
  refine V_sld hH.1 d_lw_law_253 (by omega) (by omega) ?_
  refine V_lcI (M' := m_mo_end) (As := [_]) (q := 219) (ci := 8) d_lw_law_254 ml_lw_22 mv_mo_end (Nat.le_of_ble_eq_true rfl) rfl (Nat.le_of_ble_eq_true rfl) (by decide) (by decide +kernel) hH.2.2 (moU_end (g := g) (h := h) (hL.m l1) hL.2.2.1 (q_r32 _)) (fun y2 f2 hy => ?_)
  obtain ⟨rfl, s2, l2⟩ := hy
  exact V_same 1174 d_lw_law_257 (by decide) (hK _ _ _ _ (hL.step (W_end hL.2.2.1 _) s1 l1 s2 l2))
theorem lawc_2 (hH : lawH D C b Ls xs i cs ss) (hK : lawK D C nm b i cs ss) (hL : LI g f A) : V D C (m_law nm) 262 [.ref b, vr D 0, vr D 219, vi i] [] (274, RF g h, cs, ss) f := by
  have hi := hH.2.1
  refine V_aload_1 d_lw_law_262 ?_
  have hok := sText_ok (T := fun k => A 14 k 0) hL.2.2.1.2.2.1.1 hL.2.2.1.2.2.1.2 (st0 (186 - g) f)
  have hfl := fl_text (T := fun k => A 14 k 0) hL.2.2.1.2.2.1.1 hL.2.2.1.2.2.1.2 (st0 (186 - g) f)
  refine V_lcG (M' := m_hs_guild) (q := 0) (ci := 7) d_lw_law_263 ml_lw_23 mv_hs_guild (Nat.le_of_ble_eq_true rfl) (Nat.le_of_ble_eq_true rfl) (by decide) (by decide +kernel) hH.2.2 (hs_guild (h := h) hL.1 hL.2.2.1) (fun v z f1 hy => ?_)
  unfold hgP at hy
  cases hs : sText (fun k => A 14 k 0) (A 13 0 3) (st0 (186 - g) f) with
  | inl e =>
    rw [hs] at hy
    obtain ⟨rfl, rfl, s1, l1⟩ := hy
    show V D C (m_law nm) 266 [.ref b, vr D 0, vr D 219, vi i] [vi (-1)] (274, RF g (186 - g), cs, ss) f1
    refine V_aload_2 d_lw_law_266 ?_
    refine V_lcI (M' := m_mo_guild) (As := []) (q := 219) (ci := 8) d_lw_law_267 ml_lw_27 mv_mo_guild (Nat.le_of_ble_eq_true rfl) rfl (Nat.le_of_ble_eq_true rfl) (by decide) (by decide +kernel) hH.2.2 (mo_guild (g := g) (h := (186 - g)) (hL.m l1) hL.2.2.1 (hL.2.2.2.lo l1) (st0 (186 - g) f)) (fun y2 f2 hy => ?_)
    unfold mgP at hy
    rw [hs] at hy
    obtain ⟨rfl, s2, l2, he⟩ := hy
    have hp := hfl e hs
    have hn := hL.2.2.1.2.2.1.2
    exact V_same 1174 d_lw_law_270 (by decide) (hK _ _ _ _ (hL.step (W_gbad hL.2.2.1 (by omega) (by omega)) s1 l1 s2 l2))
  | inr s =>
    rw [hs] at hy
    obtain ⟨rfl, rfl, B, hB, s1, l1⟩ := hy
    show V D C (m_law nm) 266 [.ref b, vr D 0, vr D 219, vi i] [vi (s.1 0 13)] (274, RF (186 - g) (186 - g), cs, ss) f1
    refine V_aload_2 d_lw_law_266 ?_
    refine V_lcI (M' := m_mo_guild) (As := []) (q := 219) (ci := 8) d_lw_law_267 ml_lw_27 mv_mo_guild (Nat.le_of_ble_eq_true rfl) rfl (Nat.le_of_ble_eq_true rfl) (by decide) (by decide +kernel) hH.2.2 (mo_guild (g := (186 - g)) (h := (186 - g)) (hL.m l1) hL.2.2.1 (hL.2.2.2.lo l1) (st0 (186 - g) f)) (fun y2 f2 hy => ?_)
    unfold mgP at hy
    rw [hs] at hy
    obtain ⟨rfl, s2, l2⟩ := hy
    obtain ⟨o1, o2, -, -⟩ := hok s.1 s.2.1 s.2.2.1 s.2.2.2 hs
    exact V_same 1174 d_lw_law_270 (by decide) (hK _ _ _ _ (hL.step (W_guild hL.2.2.1 o1 o2 hB) s1 l1 (s2 B) l2))
theorem lawc_3 (hH : lawH D C b Ls xs i cs ss) (hK : lawK D C nm b i cs ss) (hL : LI g f A) : V D C (m_law nm) 275 [.ref b, vr D 0, vr D 219, vi i] [] (274, RF g h, cs, ss) f := by
  have hi := hH.2.1
  refine V_aload_1 d_lw_law_275 ?_
  refine V_ald0 d_lw_law_276 ?_
  refine V_iload_3 d_lw_law_277 ?_
  refine V_iconst 1 d_lw_law_278 ?_
  refine V_iadd d_lw_law_279 ?_
  refine V_sld hH.1 d_lw_law_280 (by omega) (by omega) ?_
  refine V_lcI (M' := m_hs_fault) (As := [_]) (q := 0) (ci := 7) d_lw_law_281 ml_lw_28 mv_hs_fault (Nat.le_of_ble_eq_true rfl) rfl (Nat.le_of_ble_eq_true rfl) (by decide) (by decide +kernel) hH.2.2 (hsU_fault (g := g) (h := h) hL.1 hL.2.2.1 (q_r32 _)) (fun y1 f1 hy => ?_)
  obtain ⟨rfl, s1, l1⟩ := hy
  refine V_aload_2 d_lw_law_284 ?_
  refine V_ald0 d_lw_law_285 ?_
  refine V_iload_3 d_lw_law_286 ?_
  refine V_iconst 1 d_lw_law_287 ?_
  refine V_iadd d_lw_law_288 ?_
  refine V_sld hH.1 d_lw_law_289 (by omega) (by omega) ?_
  refine V_lcI (M' := m_mo_fault) (As := [_]) (q := 219) (ci := 8) d_lw_law_290 ml_lw_32 mv_mo_fault (Nat.le_of_ble_eq_true rfl) rfl (Nat.le_of_ble_eq_true rfl) (by decide) (by decide +kernel) hH.2.2 (moU_fault (g := g) (h := h) (hL.m l1) hL.2.2.1 (q_r32 _)) (fun y2 f2 hy => ?_)
  obtain ⟨rfl, s2, l2⟩ := hy
  exact V_same 1174 d_lw_law_293 (by decide) (hK _ _ _ _ (hL.step (hL.2.2.1) s1 l1 s2 l2))
theorem lawc_4 (hH : lawH D C b Ls xs i cs ss) (hK : lawK D C nm b i cs ss) (hL : LI g f A) : V D C (m_law nm) 298 [.ref b, vr D 0, vr D 219, vi i] [] (274, RF g h, cs, ss) f := by
  have hi := hH.2.1
  refine V_aload_1 d_lw_law_298 ?_
  refine V_ald0 d_lw_law_299 ?_
  refine V_iload_3 d_lw_law_300 ?_
  refine V_iconst 1 d_lw_law_301 ?_
  refine V_iadd d_lw_law_302 ?_
  refine V_sld hH.1 d_lw_law_303 (by omega) (by omega) ?_
  refine V_lcI (M' := m_hs_has) (As := [_]) (q := 0) (ci := 7) d_lw_law_304 ml_lw_33 mv_hs_has (Nat.le_of_ble_eq_true rfl) rfl (Nat.le_of_ble_eq_true rfl) (by decide) (by decide +kernel) hH.2.2 (hsU_has (g := g) (h := h) hL.1 hL.2.2.1 (q_r32 _)) (fun y1 f1 hy => ?_)
  obtain ⟨rfl, s1, l1⟩ := hy
  refine V_aload_2 d_lw_law_307 ?_
  refine V_ald0 d_lw_law_308 ?_
  refine V_iload_3 d_lw_law_309 ?_
  refine V_iconst 1 d_lw_law_310 ?_
  refine V_iadd d_lw_law_311 ?_
  refine V_sld hH.1 d_lw_law_312 (by omega) (by omega) ?_
  refine V_lcI (M' := m_mo_has) (As := [_]) (q := 219) (ci := 8) d_lw_law_313 ml_lw_36 mv_mo_has (Nat.le_of_ble_eq_true rfl) rfl (Nat.le_of_ble_eq_true rfl) (by decide) (by decide +kernel) hH.2.2 (moU_has (g := g) (h := h) (hL.m l1) hL.2.2.1 (q_r32 _)) (fun y2 f2 hy => ?_)
  obtain ⟨rfl, s2, l2⟩ := hy
  exact V_same 1174 d_lw_law_316 (by decide) (hK _ _ _ _ (hL.step (hL.2.2.1) s1 l1 s2 l2))
theorem lawc_5 (hH : lawH D C b Ls xs i cs ss) (hK : lawK D C nm b i cs ss) (hL : LI g f A) : V D C (m_law nm) 321 [.ref b, vr D 0, vr D 219, vi i] [] (274, RF g h, cs, ss) f := by
  have hi := hH.2.1
  refine V_aload_1 d_lw_law_321 ?_
  refine V_ald0 d_lw_law_322 ?_
  refine V_iload_3 d_lw_law_323 ?_
  refine V_iconst 1 d_lw_law_324 ?_
  refine V_iadd d_lw_law_325 ?_
  refine V_sld hH.1 d_lw_law_326 (by omega) (by omega) ?_
  refine V_ald0 d_lw_law_327 ?_
  refine V_iload_3 d_lw_law_328 ?_
  refine V_iconst 2 d_lw_law_329 ?_
  refine V_iadd d_lw_law_330 ?_
  refine V_sld hH.1 d_lw_law_331 (by omega) (by omega) ?_
  refine V_ald0 d_lw_law_332 ?_
  refine V_iload_3 d_lw_law_333 ?_
  refine V_iconst 3 d_lw_law_334 ?_
  refine V_iadd d_lw_law_335 ?_
  refine V_sld hH.1 d_lw_law_336 (by omega) (by omega) ?_
  refine V_lcI (M' := m_hs_letter) (As := [_, _, _]) (q := 0) (ci := 7) d_lw_law_337 ml_lw_37 mv_hs_letter (Nat.le_of_ble_eq_true rfl) rfl (Nat.le_of_ble_eq_true rfl) (by decide) (by decide +kernel) hH.2.2 (hsU_letter (g := g) (h := h) hL.1 hL.2.2.1 (q_r32 _) (q_r32 _) (q_r32 _)) (fun y1 f1 hy => ?_)
  obtain ⟨rfl, s1, l1⟩ := hy
  refine V_aload_2 d_lw_law_340 ?_
  refine V_ald0 d_lw_law_341 ?_
  refine V_iload_3 d_lw_law_342 ?_
  refine V_iconst 1 d_lw_law_343 ?_
  refine V_iadd d_lw_law_344 ?_
  refine V_sld hH.1 d_lw_law_345 (by omega) (by omega) ?_
  refine V_ald0 d_lw_law_346 ?_
  refine V_iload_3 d_lw_law_347 ?_
  refine V_iconst 2 d_lw_law_348 ?_
  refine V_iadd d_lw_law_349 ?_
  refine V_sld hH.1 d_lw_law_350 (by omega) (by omega) ?_
  refine V_ald0 d_lw_law_351 ?_
  refine V_iload_3 d_lw_law_352 ?_
  refine V_iconst 3 d_lw_law_353 ?_
  refine V_iadd d_lw_law_354 ?_
  refine V_sld hH.1 d_lw_law_355 (by omega) (by omega) ?_
  refine V_lcI (M' := m_mo_letter) (As := [_, _, _]) (q := 219) (ci := 8) d_lw_law_356 ml_lw_41 mv_mo_letter (Nat.le_of_ble_eq_true rfl) rfl (Nat.le_of_ble_eq_true rfl) (by decide) (by decide +kernel) hH.2.2 (moU_letter (g := g) (h := h) (hL.m l1) hL.2.2.1 (q_r32 _) (q_r32 _) (q_r32 _)) (fun y2 f2 hy => ?_)
  obtain ⟨rfl, s2, l2⟩ := hy
  exact V_same 1174 d_lw_law_359 (by decide) (hK _ _ _ _ (hL.step (hL.2.2.1) s1 l1 s2 l2))
theorem lawc_6 (hH : lawH D C b Ls xs i cs ss) (hK : lawK D C nm b i cs ss) (hL : LI g f A) : V D C (m_law nm) 364 [.ref b, vr D 0, vr D 219, vi i] [] (274, RF g h, cs, ss) f := by
  have hi := hH.2.1
  refine V_aload_1 d_lw_law_364 ?_
  refine V_ald0 d_lw_law_365 ?_
  refine V_iload_3 d_lw_law_366 ?_
  refine V_iconst 1 d_lw_law_367 ?_
  refine V_iadd d_lw_law_368 ?_
  refine V_sld hH.1 d_lw_law_369 (by omega) (by omega) ?_
  refine V_ald0 d_lw_law_370 ?_
  refine V_iload_3 d_lw_law_371 ?_
  refine V_iconst 2 d_lw_law_372 ?_
  refine V_iadd d_lw_law_373 ?_
  refine V_sld hH.1 d_lw_law_374 (by omega) (by omega) ?_
  refine V_ald0 d_lw_law_375 ?_
  refine V_iload_3 d_lw_law_376 ?_
  refine V_iconst 3 d_lw_law_377 ?_
  refine V_iadd d_lw_law_378 ?_
  refine V_sld hH.1 d_lw_law_379 (by omega) (by omega) ?_
  refine V_lcI (M' := m_hs_trait) (As := [_, _, _]) (q := 0) (ci := 7) d_lw_law_380 ml_lw_42 mv_hs_trait (Nat.le_of_ble_eq_true rfl) rfl (Nat.le_of_ble_eq_true rfl) (by decide) (by decide +kernel) hH.2.2 (hsU_trait (g := g) (h := h) hL.1 hL.2.2.1 (q_r32 _) (q_r32 _) (q_r32 _)) (fun y1 f1 hy => ?_)
  obtain ⟨rfl, s1, l1⟩ := hy
  refine V_aload_2 d_lw_law_383 ?_
  refine V_ald0 d_lw_law_384 ?_
  refine V_iload_3 d_lw_law_385 ?_
  refine V_iconst 1 d_lw_law_386 ?_
  refine V_iadd d_lw_law_387 ?_
  refine V_sld hH.1 d_lw_law_388 (by omega) (by omega) ?_
  refine V_ald0 d_lw_law_389 ?_
  refine V_iload_3 d_lw_law_390 ?_
  refine V_iconst 2 d_lw_law_391 ?_
  refine V_iadd d_lw_law_392 ?_
  refine V_sld hH.1 d_lw_law_393 (by omega) (by omega) ?_
  refine V_ald0 d_lw_law_394 ?_
  refine V_iload_3 d_lw_law_395 ?_
  refine V_iconst 3 d_lw_law_396 ?_
  refine V_iadd d_lw_law_397 ?_
  refine V_sld hH.1 d_lw_law_398 (by omega) (by omega) ?_
  refine V_lcI (M' := m_mo_trait) (As := [_, _, _]) (q := 219) (ci := 8) d_lw_law_399 ml_lw_45 mv_mo_trait (Nat.le_of_ble_eq_true rfl) rfl (Nat.le_of_ble_eq_true rfl) (by decide) (by decide +kernel) hH.2.2 (moU_trait (g := g) (h := h) (hL.m l1) hL.2.2.1 (q_r32 _) (q_r32 _) (q_r32 _)) (fun y2 f2 hy => ?_)
  obtain ⟨rfl, s2, l2⟩ := hy
  exact V_same 1174 d_lw_law_402 (by decide) (hK _ _ _ _ (hL.step (hL.2.2.1) s1 l1 s2 l2))
theorem lawc_7 (hH : lawH D C b Ls xs i cs ss) (hK : lawK D C nm b i cs ss) (hL : LI g f A) : V D C (m_law nm) 407 [.ref b, vr D 0, vr D 219, vi i] [] (274, RF g h, cs, ss) f := by
  have hi := hH.2.1
  refine V_aload_1 d_lw_law_407 ?_
  refine V_ald0 d_lw_law_408 ?_
  refine V_iload_3 d_lw_law_409 ?_
  refine V_iconst 1 d_lw_law_410 ?_
  refine V_iadd d_lw_law_411 ?_
  refine V_sld hH.1 d_lw_law_412 (by omega) (by omega) ?_
  refine V_ald0 d_lw_law_413 ?_
  refine V_iload_3 d_lw_law_414 ?_
  refine V_iconst 2 d_lw_law_415 ?_
  refine V_iadd d_lw_law_416 ?_
  refine V_sld hH.1 d_lw_law_417 (by omega) (by omega) ?_
  refine V_lcI (M' := m_hs_seen) (As := [_, _]) (q := 0) (ci := 7) d_lw_law_418 ml_lw_46 mv_hs_seen (Nat.le_of_ble_eq_true rfl) rfl (Nat.le_of_ble_eq_true rfl) (by decide) (by decide +kernel) hH.2.2 (hsU_seen (g := g) (h := h) hL.1 hL.2.2.1 (q_r32 _) (q_r32 _)) (fun y1 f1 hy => ?_)
  obtain ⟨rfl, s1, l1⟩ := hy
  refine V_aload_2 d_lw_law_421 ?_
  refine V_ald0 d_lw_law_422 ?_
  refine V_iload_3 d_lw_law_423 ?_
  refine V_iconst 1 d_lw_law_424 ?_
  refine V_iadd d_lw_law_425 ?_
  refine V_sld hH.1 d_lw_law_426 (by omega) (by omega) ?_
  refine V_ald0 d_lw_law_427 ?_
  refine V_iload_3 d_lw_law_428 ?_
  refine V_iconst 2 d_lw_law_429 ?_
  refine V_iadd d_lw_law_430 ?_
  refine V_sld hH.1 d_lw_law_431 (by omega) (by omega) ?_
  refine V_lcI (M' := m_mo_seen) (As := [_, _]) (q := 219) (ci := 8) d_lw_law_432 ml_lw_50 mv_mo_seen (Nat.le_of_ble_eq_true rfl) rfl (Nat.le_of_ble_eq_true rfl) (by decide) (by decide +kernel) hH.2.2 (moU_seen (g := g) (h := h) (hL.m l1) hL.2.2.1 (q_r32 _) (q_r32 _)) (fun y2 f2 hy => ?_)
  obtain ⟨rfl, s2, l2⟩ := hy
  exact V_same 1174 d_lw_law_435 (by decide) (hK _ _ _ _ (hL.step (hL.2.2.1) s1 l1 s2 l2))
theorem lawc_8 (hH : lawH D C b Ls xs i cs ss) (hK : lawK D C nm b i cs ss) (hL : LI g f A) : V D C (m_law nm) 440 [.ref b, vr D 0, vr D 219, vi i] [] (274, RF g h, cs, ss) f := by
  have hi := hH.2.1
  refine V_aload_1 d_lw_law_440 ?_
  refine V_ald0 d_lw_law_441 ?_
  refine V_iload_3 d_lw_law_442 ?_
  refine V_iconst 1 d_lw_law_443 ?_
  refine V_iadd d_lw_law_444 ?_
  refine V_sld hH.1 d_lw_law_445 (by omega) (by omega) ?_
  refine V_ald0 d_lw_law_446 ?_
  refine V_iload_3 d_lw_law_447 ?_
  refine V_iconst 2 d_lw_law_448 ?_
  refine V_iadd d_lw_law_449 ?_
  refine V_sld hH.1 d_lw_law_450 (by omega) (by omega) ?_
  refine V_lcI (M' := m_hs_far) (As := [_, _]) (q := 0) (ci := 7) d_lw_law_451 ml_lw_51 mv_hs_far (Nat.le_of_ble_eq_true rfl) rfl (Nat.le_of_ble_eq_true rfl) (by decide) (by decide +kernel) hH.2.2 (hsU_far (g := g) (h := h) hL.1 hL.2.2.1 (q_r32 _) (q_r32 _)) (fun y1 f1 hy => ?_)
  obtain ⟨rfl, s1, l1⟩ := hy
  refine V_aload_2 d_lw_law_454 ?_
  refine V_ald0 d_lw_law_455 ?_
  refine V_iload_3 d_lw_law_456 ?_
  refine V_iconst 1 d_lw_law_457 ?_
  refine V_iadd d_lw_law_458 ?_
  refine V_sld hH.1 d_lw_law_459 (by omega) (by omega) ?_
  refine V_ald0 d_lw_law_460 ?_
  refine V_iload_3 d_lw_law_461 ?_
  refine V_iconst 2 d_lw_law_462 ?_
  refine V_iadd d_lw_law_463 ?_
  refine V_sld hH.1 d_lw_law_464 (by omega) (by omega) ?_
  refine V_lcI (M' := m_mo_far) (As := [_, _]) (q := 219) (ci := 8) d_lw_law_465 ml_lw_54 mv_mo_far (Nat.le_of_ble_eq_true rfl) rfl (Nat.le_of_ble_eq_true rfl) (by decide) (by decide +kernel) hH.2.2 (moU_far (g := g) (h := h) (hL.m l1) hL.2.2.1 (q_r32 _) (q_r32 _)) (fun y2 f2 hy => ?_)
  obtain ⟨rfl, s2, l2⟩ := hy
  exact V_same 1174 d_lw_law_468 (by decide) (hK _ _ _ _ (hL.step (hL.2.2.1) s1 l1 s2 l2))
theorem lawc_9 (hH : lawH D C b Ls xs i cs ss) (hK : lawK D C nm b i cs ss) (hL : LI g f A) : V D C (m_law nm) 473 [.ref b, vr D 0, vr D 219, vi i] [] (274, RF g h, cs, ss) f := by
  have hi := hH.2.1
  refine V_aload_1 d_lw_law_473 ?_
  refine V_ald0 d_lw_law_474 ?_
  refine V_iload_3 d_lw_law_475 ?_
  refine V_iconst 1 d_lw_law_476 ?_
  refine V_iadd d_lw_law_477 ?_
  refine V_sld hH.1 d_lw_law_478 (by omega) (by omega) ?_
  refine V_ald0 d_lw_law_479 ?_
  refine V_iload_3 d_lw_law_480 ?_
  refine V_iconst 2 d_lw_law_481 ?_
  refine V_iadd d_lw_law_482 ?_
  refine V_sld hH.1 d_lw_law_483 (by omega) (by omega) ?_
  refine V_lcI (M' := m_hs_pass) (As := [_, _]) (q := 0) (ci := 7) d_lw_law_484 ml_lw_55 mv_hs_pass (Nat.le_of_ble_eq_true rfl) rfl (Nat.le_of_ble_eq_true rfl) (by decide) (by decide +kernel) hH.2.2 (hsU_pass (g := g) (h := h) hL.1 hL.2.2.1 (q_r32 _) (q_r32 _)) (fun y1 f1 hy => ?_)
  obtain ⟨rfl, s1, l1⟩ := hy
  refine V_aload_2 d_lw_law_487 ?_
  refine V_ald0 d_lw_law_488 ?_
  refine V_iload_3 d_lw_law_489 ?_
  refine V_iconst 1 d_lw_law_490 ?_
  refine V_iadd d_lw_law_491 ?_
  refine V_sld hH.1 d_lw_law_492 (by omega) (by omega) ?_
  refine V_ald0 d_lw_law_493 ?_
  refine V_iload_3 d_lw_law_494 ?_
  refine V_iconst 2 d_lw_law_495 ?_
  refine V_iadd d_lw_law_496 ?_
  refine V_sld hH.1 d_lw_law_497 (by omega) (by omega) ?_
  refine V_lcI (M' := m_mo_pass) (As := [_, _]) (q := 219) (ci := 8) d_lw_law_498 ml_lw_58 mv_mo_pass (Nat.le_of_ble_eq_true rfl) rfl (Nat.le_of_ble_eq_true rfl) (by decide) (by decide +kernel) hH.2.2 (moU_pass (g := g) (h := h) (hL.m l1) hL.2.2.1 (q_r32 _) (q_r32 _)) (fun y2 f2 hy => ?_)
  obtain ⟨rfl, s2, l2⟩ := hy
  exact V_same 1174 d_lw_law_501 (by decide) (hK _ _ _ _ (hL.step (hL.2.2.1) s1 l1 s2 l2))
theorem lawc_10 (hH : lawH D C b Ls xs i cs ss) (hK : lawK D C nm b i cs ss) (hL : LI g f A) : V D C (m_law nm) 506 [.ref b, vr D 0, vr D 219, vi i] [] (274, RF g h, cs, ss) f := by
  have hi := hH.2.1
  refine V_aload_1 d_lw_law_506 ?_
  refine V_ald0 d_lw_law_507 ?_
  refine V_iload_3 d_lw_law_508 ?_
  refine V_iconst 1 d_lw_law_509 ?_
  refine V_iadd d_lw_law_510 ?_
  refine V_sld hH.1 d_lw_law_511 (by omega) (by omega) ?_
  refine V_ald0 d_lw_law_512 ?_
  refine V_iload_3 d_lw_law_513 ?_
  refine V_iconst 2 d_lw_law_514 ?_
  refine V_iadd d_lw_law_515 ?_
  refine V_sld hH.1 d_lw_law_516 (by omega) (by omega) ?_
  refine V_lcI (M' := m_hs_price) (As := [_, _]) (q := 0) (ci := 7) d_lw_law_517 ml_lw_59 mv_hs_price (Nat.le_of_ble_eq_true rfl) rfl (Nat.le_of_ble_eq_true rfl) (by decide) (by decide +kernel) hH.2.2 (hsU_price (g := g) (h := h) hL.1 hL.2.2.1 (q_r32 _) (q_r32 _)) (fun y1 f1 hy => ?_)
  obtain ⟨rfl, s1, l1⟩ := hy
  refine V_aload_2 d_lw_law_520 ?_
  refine V_ald0 d_lw_law_521 ?_
  refine V_iload_3 d_lw_law_522 ?_
  refine V_iconst 1 d_lw_law_523 ?_
  refine V_iadd d_lw_law_524 ?_
  refine V_sld hH.1 d_lw_law_525 (by omega) (by omega) ?_
  refine V_ald0 d_lw_law_526 ?_
  refine V_iload_3 d_lw_law_527 ?_
  refine V_iconst 2 d_lw_law_528 ?_
  refine V_iadd d_lw_law_529 ?_
  refine V_sld hH.1 d_lw_law_530 (by omega) (by omega) ?_
  refine V_lcI (M' := m_mo_price) (As := [_, _]) (q := 219) (ci := 8) d_lw_law_531 ml_lw_62 mv_mo_price (Nat.le_of_ble_eq_true rfl) rfl (Nat.le_of_ble_eq_true rfl) (by decide) (by decide +kernel) hH.2.2 (moU_price (g := g) (h := h) (hL.m l1) hL.2.2.1 (q_r32 _) (q_r32 _)) (fun y2 f2 hy => ?_)
  obtain ⟨rfl, s2, l2⟩ := hy
  exact V_same 1174 d_lw_law_534 (by decide) (hK _ _ _ _ (hL.step (hL.2.2.1) s1 l1 s2 l2))
theorem lawc_11 (hH : lawH D C b Ls xs i cs ss) (hK : lawK D C nm b i cs ss) (hL : LI g f A) : V D C (m_law nm) 539 [.ref b, vr D 0, vr D 219, vi i] [] (274, RF g h, cs, ss) f := by
  have hi := hH.2.1
  refine V_aload_1 d_lw_law_539 ?_
  refine V_ald0 d_lw_law_540 ?_
  refine V_iload_3 d_lw_law_541 ?_
  refine V_iconst 1 d_lw_law_542 ?_
  refine V_iadd d_lw_law_543 ?_
  refine V_sld hH.1 d_lw_law_544 (by omega) (by omega) ?_
  refine V_ald0 d_lw_law_545 ?_
  refine V_iload_3 d_lw_law_546 ?_
  refine V_iconst 2 d_lw_law_547 ?_
  refine V_iadd d_lw_law_548 ?_
  refine V_sld hH.1 d_lw_law_549 (by omega) (by omega) ?_
  refine V_if_eq 557 d_lw_law_550 (by decide) (q_r32 _) (fun c550 => ?_) (fun c550 => ?_)
  · skip
    refine V_iconst 0 d_lw_law_557 ?_
    refine V_ald0 d_lw_law_558 ?_
    refine V_iload_3 d_lw_law_559 ?_
    refine V_iconst 3 d_lw_law_560 ?_
    refine V_iadd d_lw_law_561 ?_
    refine V_sld hH.1 d_lw_law_562 (by omega) (by omega) ?_
    refine V_lcI (M' := m_hs_best) (As := [_, _, _]) (q := 0) (ci := 7) d_lw_law_563 ml_lw_63 mv_hs_best (Nat.le_of_ble_eq_true rfl) rfl (Nat.le_of_ble_eq_true rfl) (by decide) (by decide +kernel) hH.2.2 (hsU_best (g := g) (h := h) hL.1 hL.2.2.1 (q_r32 _) (Or.inl rfl) (q_r32 _)) (fun y1 f1 hy => ?_)
    obtain ⟨rfl, s1, l1⟩ := hy
    refine V_aload_2 d_lw_law_566 ?_
    refine V_ald0 d_lw_law_567 ?_
    refine V_iload_3 d_lw_law_568 ?_
    refine V_iconst 1 d_lw_law_569 ?_
    refine V_iadd d_lw_law_570 ?_
    refine V_sld hH.1 d_lw_law_571 (by omega) (by omega) ?_
    refine V_ald0 d_lw_law_572 ?_
    refine V_iload_3 d_lw_law_573 ?_
    refine V_iconst 2 d_lw_law_574 ?_
    refine V_iadd d_lw_law_575 ?_
    refine V_sld hH.1 d_lw_law_576 (by omega) (by omega) ?_
    refine V_if_eq 584 d_lw_law_577 (by decide) (q_r32 _) (fun c577 => ?_) (fun c577 => ?_)
    · skip
      refine V_iconst 0 d_lw_law_584 ?_
      refine V_ald0 d_lw_law_585 ?_
      refine V_iload_3 d_lw_law_586 ?_
      refine V_iconst 3 d_lw_law_587 ?_
      refine V_iadd d_lw_law_588 ?_
      refine V_sld hH.1 d_lw_law_589 (by omega) (by omega) ?_
      refine V_lcI (M' := m_mo_best) (As := [_, _, _]) (q := 219) (ci := 8) d_lw_law_590 ml_lw_67 mv_mo_best (Nat.le_of_ble_eq_true rfl) rfl (Nat.le_of_ble_eq_true rfl) (by decide) (by decide +kernel) hH.2.2 (moU_best (g := g) (h := h) (hL.m l1) hL.2.2.1 (q_r32 _) (Or.inl rfl) (q_r32 _)) (fun y2 f2 hy => ?_)
      obtain ⟨rfl, s2, l2⟩ := hy
      exact V_same 1174 d_lw_law_593 (by decide) (hK _ _ _ _ (hL.step (hL.2.2.1) s1 l1 s2 l2))
    · skip
      exact absurd c550 c577
  · skip
    refine V_iconst 1 d_lw_law_553 ?_
    refine V_goto 558 d_lw_law_554 (by decide) ?_
    refine V_ald0 d_lw_law_558 ?_
    refine V_iload_3 d_lw_law_559 ?_
    refine V_iconst 3 d_lw_law_560 ?_
    refine V_iadd d_lw_law_561 ?_
    refine V_sld hH.1 d_lw_law_562 (by omega) (by omega) ?_
    refine V_lcI (M' := m_hs_best) (As := [_, _, _]) (q := 0) (ci := 7) d_lw_law_563 ml_lw_63 mv_hs_best (Nat.le_of_ble_eq_true rfl) rfl (Nat.le_of_ble_eq_true rfl) (by decide) (by decide +kernel) hH.2.2 (hsU_best (g := g) (h := h) hL.1 hL.2.2.1 (q_r32 _) (Or.inr rfl) (q_r32 _)) (fun y1 f1 hy => ?_)
    obtain ⟨rfl, s1, l1⟩ := hy
    refine V_aload_2 d_lw_law_566 ?_
    refine V_ald0 d_lw_law_567 ?_
    refine V_iload_3 d_lw_law_568 ?_
    refine V_iconst 1 d_lw_law_569 ?_
    refine V_iadd d_lw_law_570 ?_
    refine V_sld hH.1 d_lw_law_571 (by omega) (by omega) ?_
    refine V_ald0 d_lw_law_572 ?_
    refine V_iload_3 d_lw_law_573 ?_
    refine V_iconst 2 d_lw_law_574 ?_
    refine V_iadd d_lw_law_575 ?_
    refine V_sld hH.1 d_lw_law_576 (by omega) (by omega) ?_
    refine V_if_eq 584 d_lw_law_577 (by decide) (q_r32 _) (fun c577 => ?_) (fun c577 => ?_)
    · skip
      exact absurd c577 c550
    · skip
      refine V_iconst 1 d_lw_law_580 ?_
      refine V_goto 585 d_lw_law_581 (by decide) ?_
      refine V_ald0 d_lw_law_585 ?_
      refine V_iload_3 d_lw_law_586 ?_
      refine V_iconst 3 d_lw_law_587 ?_
      refine V_iadd d_lw_law_588 ?_
      refine V_sld hH.1 d_lw_law_589 (by omega) (by omega) ?_
      refine V_lcI (M' := m_mo_best) (As := [_, _, _]) (q := 219) (ci := 8) d_lw_law_590 ml_lw_67 mv_mo_best (Nat.le_of_ble_eq_true rfl) rfl (Nat.le_of_ble_eq_true rfl) (by decide) (by decide +kernel) hH.2.2 (moU_best (g := g) (h := h) (hL.m l1) hL.2.2.1 (q_r32 _) (Or.inr rfl) (q_r32 _)) (fun y2 f2 hy => ?_)
      obtain ⟨rfl, s2, l2⟩ := hy
      exact V_same 1174 d_lw_law_593 (by decide) (hK _ _ _ _ (hL.step (hL.2.2.1) s1 l1 s2 l2))
theorem lawc_12 (hH : lawH D C b Ls xs i cs ss) (hK : lawK D C nm b i cs ss) (hL : LI g f A) : V D C (m_law nm) 598 [.ref b, vr D 0, vr D 219, vi i] [] (274, RF g h, cs, ss) f := by
  have hi := hH.2.1
  refine V_aload_1 d_lw_law_598 ?_
  refine V_ald0 d_lw_law_599 ?_
  refine V_iload_3 d_lw_law_600 ?_
  refine V_iconst 1 d_lw_law_601 ?_
  refine V_iadd d_lw_law_602 ?_
  refine V_sld hH.1 d_lw_law_603 (by omega) (by omega) ?_
  refine V_ald0 d_lw_law_604 ?_
  refine V_iload_3 d_lw_law_605 ?_
  refine V_iconst 2 d_lw_law_606 ?_
  refine V_iadd d_lw_law_607 ?_
  refine V_sld hH.1 d_lw_law_608 (by omega) (by omega) ?_
  refine V_lcI (M' := m_hs_whose) (As := [_, _]) (q := 0) (ci := 7) d_lw_law_609 ml_lw_68 mv_hs_whose (Nat.le_of_ble_eq_true rfl) rfl (Nat.le_of_ble_eq_true rfl) (by decide) (by decide +kernel) hH.2.2 (hsU_whose (g := g) (h := h) hL.1 hL.2.2.1 (q_r32 _) (q_r32 _)) (fun y1 f1 hy => ?_)
  obtain ⟨rfl, s1, l1⟩ := hy
  refine V_aload_2 d_lw_law_612 ?_
  refine V_ald0 d_lw_law_613 ?_
  refine V_iload_3 d_lw_law_614 ?_
  refine V_iconst 1 d_lw_law_615 ?_
  refine V_iadd d_lw_law_616 ?_
  refine V_sld hH.1 d_lw_law_617 (by omega) (by omega) ?_
  refine V_ald0 d_lw_law_618 ?_
  refine V_iload_3 d_lw_law_619 ?_
  refine V_iconst 2 d_lw_law_620 ?_
  refine V_iadd d_lw_law_621 ?_
  refine V_sld hH.1 d_lw_law_622 (by omega) (by omega) ?_
  refine V_lcI (M' := m_mo_whose) (As := [_, _]) (q := 219) (ci := 8) d_lw_law_623 ml_lw_71 mv_mo_whose (Nat.le_of_ble_eq_true rfl) rfl (Nat.le_of_ble_eq_true rfl) (by decide) (by decide +kernel) hH.2.2 (moU_whose (g := g) (h := h) (hL.m l1) hL.2.2.1 (q_r32 _) (q_r32 _)) (fun y2 f2 hy => ?_)
  obtain ⟨rfl, s2, l2⟩ := hy
  exact V_same 1174 d_lw_law_626 (by decide) (hK _ _ _ _ (hL.step (hL.2.2.1) s1 l1 s2 l2))
theorem lawc_13 (hH : lawH D C b Ls xs i cs ss) (hK : lawK D C nm b i cs ss) (hL : LI g f A) : V D C (m_law nm) 631 [.ref b, vr D 0, vr D 219, vi i] [] (274, RF g h, cs, ss) f := by
  have hi := hH.2.1
  refine V_aload_1 d_lw_law_631 ?_
  refine V_ald0 d_lw_law_632 ?_
  refine V_iload_3 d_lw_law_633 ?_
  refine V_iconst 1 d_lw_law_634 ?_
  refine V_iadd d_lw_law_635 ?_
  refine V_sld hH.1 d_lw_law_636 (by omega) (by omega) ?_
  refine V_ald0 d_lw_law_637 ?_
  refine V_iload_3 d_lw_law_638 ?_
  refine V_iconst 2 d_lw_law_639 ?_
  refine V_iadd d_lw_law_640 ?_
  refine V_sld hH.1 d_lw_law_641 (by omega) (by omega) ?_
  refine V_lcI (M' := m_hs_canBe) (As := [_, _]) (q := 0) (ci := 7) d_lw_law_642 ml_lw_72 mv_hs_canBe (Nat.le_of_ble_eq_true rfl) rfl (Nat.le_of_ble_eq_true rfl) (by decide) (by decide +kernel) hH.2.2 (hsU_canBe (g := g) (h := h) hL.1 hL.2.2.1 (q_r32 _) (q_r32 _)) (fun y1 f1 hy => ?_)
  obtain ⟨rfl, s1, l1⟩ := hy
  refine V_aload_2 d_lw_law_645 ?_
  refine V_ald0 d_lw_law_646 ?_
  refine V_iload_3 d_lw_law_647 ?_
  refine V_iconst 1 d_lw_law_648 ?_
  refine V_iadd d_lw_law_649 ?_
  refine V_sld hH.1 d_lw_law_650 (by omega) (by omega) ?_
  refine V_ald0 d_lw_law_651 ?_
  refine V_iload_3 d_lw_law_652 ?_
  refine V_iconst 2 d_lw_law_653 ?_
  refine V_iadd d_lw_law_654 ?_
  refine V_sld hH.1 d_lw_law_655 (by omega) (by omega) ?_
  refine V_lcI (M' := m_mo_canBe) (As := [_, _]) (q := 219) (ci := 8) d_lw_law_656 ml_lw_75 mv_mo_canBe (Nat.le_of_ble_eq_true rfl) rfl (Nat.le_of_ble_eq_true rfl) (by decide) (by decide +kernel) hH.2.2 (moU_canBe (g := g) (h := h) (hL.m l1) hL.2.2.1 (q_r32 _) (q_r32 _)) (fun y2 f2 hy => ?_)
  obtain ⟨rfl, s2, l2⟩ := hy
  exact V_same 1174 d_lw_law_659 (by decide) (hK _ _ _ _ (hL.step (hL.2.2.1) s1 l1 s2 l2))
theorem lawc_14 (hH : lawH D C b Ls xs i cs ss) (hK : lawK D C nm b i cs ss) (hL : LI g f A) : V D C (m_law nm) 664 [.ref b, vr D 0, vr D 219, vi i] [] (274, RF g h, cs, ss) f := by
  have hi := hH.2.1
  refine V_aload_1 d_lw_law_664 ?_
  refine V_ald0 d_lw_law_665 ?_
  refine V_iload_3 d_lw_law_666 ?_
  refine V_iconst 1 d_lw_law_667 ?_
  refine V_iadd d_lw_law_668 ?_
  refine V_sld hH.1 d_lw_law_669 (by omega) (by omega) ?_
  refine V_ald0 d_lw_law_670 ?_
  refine V_iload_3 d_lw_law_671 ?_
  refine V_iconst 2 d_lw_law_672 ?_
  refine V_iadd d_lw_law_673 ?_
  refine V_sld hH.1 d_lw_law_674 (by omega) (by omega) ?_
  refine V_lcI (M' := m_hs_chain) (As := [_, _]) (q := 0) (ci := 7) d_lw_law_675 ml_lw_76 mv_hs_chain (Nat.le_of_ble_eq_true rfl) rfl (Nat.le_of_ble_eq_true rfl) (by decide) (by decide +kernel) hH.2.2 (hsU_chain (g := g) (h := h) hL.1 hL.2.2.1 (q_r32 _) (q_r32 _)) (fun y1 f1 hy => ?_)
  obtain ⟨rfl, s1, l1⟩ := hy
  refine V_aload_2 d_lw_law_678 ?_
  refine V_ald0 d_lw_law_679 ?_
  refine V_iload_3 d_lw_law_680 ?_
  refine V_iconst 1 d_lw_law_681 ?_
  refine V_iadd d_lw_law_682 ?_
  refine V_sld hH.1 d_lw_law_683 (by omega) (by omega) ?_
  refine V_ald0 d_lw_law_684 ?_
  refine V_iload_3 d_lw_law_685 ?_
  refine V_iconst 2 d_lw_law_686 ?_
  refine V_iadd d_lw_law_687 ?_
  refine V_sld hH.1 d_lw_law_688 (by omega) (by omega) ?_
  refine V_lcI (M' := m_mo_chain) (As := [_, _]) (q := 219) (ci := 8) d_lw_law_689 ml_lw_79 mv_mo_chain (Nat.le_of_ble_eq_true rfl) rfl (Nat.le_of_ble_eq_true rfl) (by decide) (by decide +kernel) hH.2.2 (moU_chain (g := g) (h := h) (hL.m l1) hL.2.2.1 (q_r32 _) (q_r32 _)) (fun y2 f2 hy => ?_)
  obtain ⟨rfl, s2, l2⟩ := hy
  exact V_same 1174 d_lw_law_692 (by decide) (hK _ _ _ _ (hL.step (hL.2.2.1) s1 l1 s2 l2))
theorem lawc_15 (hH : lawH D C b Ls xs i cs ss) (hK : lawK D C nm b i cs ss) (hL : LI g f A) : V D C (m_law nm) 697 [.ref b, vr D 0, vr D 219, vi i] [] (274, RF g h, cs, ss) f := by
  have hi := hH.2.1
  refine V_aload_1 d_lw_law_697 ?_
  refine V_ald0 d_lw_law_698 ?_
  refine V_iload_3 d_lw_law_699 ?_
  refine V_iconst 1 d_lw_law_700 ?_
  refine V_iadd d_lw_law_701 ?_
  refine V_sld hH.1 d_lw_law_702 (by omega) (by omega) ?_
  refine V_lcI (M' := m_hs_shades) (As := [_]) (q := 0) (ci := 7) d_lw_law_703 ml_lw_80 mv_hs_shades (Nat.le_of_ble_eq_true rfl) rfl (Nat.le_of_ble_eq_true rfl) (by decide) (by decide +kernel) hH.2.2 (hsU_shades (g := g) (h := h) hL.1 hL.2.2.1 (q_r32 _)) (fun y1 f1 hy => ?_)
  obtain ⟨rfl, s1, l1⟩ := hy
  refine V_aload_2 d_lw_law_706 ?_
  refine V_ald0 d_lw_law_707 ?_
  refine V_iload_3 d_lw_law_708 ?_
  refine V_iconst 1 d_lw_law_709 ?_
  refine V_iadd d_lw_law_710 ?_
  refine V_sld hH.1 d_lw_law_711 (by omega) (by omega) ?_
  refine V_lcI (M' := m_mo_shades) (As := [_]) (q := 219) (ci := 8) d_lw_law_712 ml_lw_83 mv_mo_shades (Nat.le_of_ble_eq_true rfl) rfl (Nat.le_of_ble_eq_true rfl) (by decide) (by decide +kernel) hH.2.2 (moU_shades (g := g) (h := h) (hL.m l1) hL.2.2.1 (q_r32 _)) (fun y2 f2 hy => ?_)
  obtain ⟨rfl, s2, l2⟩ := hy
  exact V_same 1174 d_lw_law_715 (by decide) (hK _ _ _ _ (hL.step (hL.2.2.1) s1 l1 s2 l2))
theorem lawc_16 (hH : lawH D C b Ls xs i cs ss) (hK : lawK D C nm b i cs ss) (hL : LI g f A) : V D C (m_law nm) 720 [.ref b, vr D 0, vr D 219, vi i] [] (274, RF g h, cs, ss) f := by
  have hi := hH.2.1
  refine V_aload_1 d_lw_law_720 ?_
  refine V_ald0 d_lw_law_721 ?_
  refine V_iload_3 d_lw_law_722 ?_
  refine V_iconst 1 d_lw_law_723 ?_
  refine V_iadd d_lw_law_724 ?_
  refine V_sld hH.1 d_lw_law_725 (by omega) (by omega) ?_
  refine V_lcI (M' := m_hs_must) (As := [_]) (q := 0) (ci := 7) d_lw_law_726 ml_lw_84 mv_hs_must (Nat.le_of_ble_eq_true rfl) rfl (Nat.le_of_ble_eq_true rfl) (by decide) (by decide +kernel) hH.2.2 (hsU_must (g := g) (h := h) hL.1 hL.2.2.1 (q_r32 _)) (fun y1 f1 hy => ?_)
  obtain ⟨rfl, s1, l1⟩ := hy
  refine V_aload_2 d_lw_law_729 ?_
  refine V_ald0 d_lw_law_730 ?_
  refine V_iload_3 d_lw_law_731 ?_
  refine V_iconst 1 d_lw_law_732 ?_
  refine V_iadd d_lw_law_733 ?_
  refine V_sld hH.1 d_lw_law_734 (by omega) (by omega) ?_
  refine V_lcI (M' := m_mo_must) (As := [_]) (q := 219) (ci := 8) d_lw_law_735 ml_lw_87 mv_mo_must (Nat.le_of_ble_eq_true rfl) rfl (Nat.le_of_ble_eq_true rfl) (by decide) (by decide +kernel) hH.2.2 (moU_must (g := g) (h := h) (hL.m l1) hL.2.2.1 (q_r32 _)) (fun y2 f2 hy => ?_)
  obtain ⟨rfl, s2, l2⟩ := hy
  exact V_same 1174 d_lw_law_738 (by decide) (hK _ _ _ _ (hL.step (hL.2.2.1) s1 l1 s2 l2))
theorem lawc_17 (hH : lawH D C b Ls xs i cs ss) (hK : lawK D C nm b i cs ss) (hL : LI g f A) : V D C (m_law nm) 743 [.ref b, vr D 0, vr D 219, vi i] [] (274, RF g h, cs, ss) f := by
  have hi := hH.2.1
  refine V_aload_1 d_lw_law_743 ?_
  refine V_ald0 d_lw_law_744 ?_
  refine V_iload_3 d_lw_law_745 ?_
  refine V_iconst 1 d_lw_law_746 ?_
  refine V_iadd d_lw_law_747 ?_
  refine V_sld hH.1 d_lw_law_748 (by omega) (by omega) ?_
  refine V_lcI (M' := m_hs_clash) (As := [_]) (q := 0) (ci := 7) d_lw_law_749 ml_lw_88 mv_hs_clash (Nat.le_of_ble_eq_true rfl) rfl (Nat.le_of_ble_eq_true rfl) (by decide) (by decide +kernel) hH.2.2 (hsU_clash (g := g) (h := h) hL.1 hL.2.2.1 (q_r32 _)) (fun y1 f1 hy => ?_)
  obtain ⟨rfl, s1, l1⟩ := hy
  refine V_aload_2 d_lw_law_752 ?_
  refine V_ald0 d_lw_law_753 ?_
  refine V_iload_3 d_lw_law_754 ?_
  refine V_iconst 1 d_lw_law_755 ?_
  refine V_iadd d_lw_law_756 ?_
  refine V_sld hH.1 d_lw_law_757 (by omega) (by omega) ?_
  refine V_lcI (M' := m_mo_clash) (As := [_]) (q := 219) (ci := 8) d_lw_law_758 ml_lw_91 mv_mo_clash (Nat.le_of_ble_eq_true rfl) rfl (Nat.le_of_ble_eq_true rfl) (by decide) (by decide +kernel) hH.2.2 (moU_clash (g := g) (h := h) (hL.m l1) hL.2.2.1 (q_r32 _)) (fun y2 f2 hy => ?_)
  obtain ⟨rfl, s2, l2⟩ := hy
  exact V_same 1174 d_lw_law_761 (by decide) (hK _ _ _ _ (hL.step (hL.2.2.1) s1 l1 s2 l2))
theorem lawc_18 (hH : lawH D C b Ls xs i cs ss) (hK : lawK D C nm b i cs ss) (hL : LI g f A) : V D C (m_law nm) 766 [.ref b, vr D 0, vr D 219, vi i] [] (274, RF g h, cs, ss) f := by
  have hi := hH.2.1
  refine V_aload_1 d_lw_law_766 ?_
  refine V_ald0 d_lw_law_767 ?_
  refine V_iload_3 d_lw_law_768 ?_
  refine V_iconst 1 d_lw_law_769 ?_
  refine V_iadd d_lw_law_770 ?_
  refine V_sld hH.1 d_lw_law_771 (by omega) (by omega) ?_
  refine V_ald0 d_lw_law_772 ?_
  refine V_iload_3 d_lw_law_773 ?_
  refine V_iconst 2 d_lw_law_774 ?_
  refine V_iadd d_lw_law_775 ?_
  refine V_sld hH.1 d_lw_law_776 (by omega) (by omega) ?_
  refine V_ald0 d_lw_law_777 ?_
  refine V_iload_3 d_lw_law_778 ?_
  refine V_iconst 3 d_lw_law_779 ?_
  refine V_iadd d_lw_law_780 ?_
  refine V_sld hH.1 d_lw_law_781 (by omega) (by omega) ?_
  refine V_if_eq 789 d_lw_law_782 (by decide) (q_r32 _) (fun c782 => ?_) (fun c782 => ?_)
  · skip
    refine V_iconst 0 d_lw_law_789 ?_
    refine V_lcI (M' := m_hs_could) (As := [_, _, _]) (q := 0) (ci := 7) d_lw_law_790 ml_lw_92 mv_hs_could (Nat.le_of_ble_eq_true rfl) rfl (Nat.le_of_ble_eq_true rfl) (by decide) (by decide +kernel) hH.2.2 (hsU_could (g := g) (h := h) hL.1 hL.2.2.1 (q_r32 _) (q_r32 _) (Or.inl rfl)) (fun y1 f1 hy => ?_)
    obtain ⟨rfl, s1, l1⟩ := hy
    refine V_aload_2 d_lw_law_793 ?_
    refine V_ald0 d_lw_law_794 ?_
    refine V_iload_3 d_lw_law_795 ?_
    refine V_iconst 1 d_lw_law_796 ?_
    refine V_iadd d_lw_law_797 ?_
    refine V_sld hH.1 d_lw_law_798 (by omega) (by omega) ?_
    refine V_ald0 d_lw_law_799 ?_
    refine V_iload_3 d_lw_law_800 ?_
    refine V_iconst 2 d_lw_law_801 ?_
    refine V_iadd d_lw_law_802 ?_
    refine V_sld hH.1 d_lw_law_803 (by omega) (by omega) ?_
    refine V_ald0 d_lw_law_804 ?_
    refine V_iload_3 d_lw_law_805 ?_
    refine V_iconst 3 d_lw_law_806 ?_
    refine V_iadd d_lw_law_807 ?_
    refine V_sld hH.1 d_lw_law_808 (by omega) (by omega) ?_
    refine V_if_eq 816 d_lw_law_809 (by decide) (q_r32 _) (fun c809 => ?_) (fun c809 => ?_)
    · skip
      refine V_iconst 0 d_lw_law_816 ?_
      refine V_lcI (M' := m_mo_could) (As := [_, _, _]) (q := 219) (ci := 8) d_lw_law_817 ml_lw_96 mv_mo_could (Nat.le_of_ble_eq_true rfl) rfl (Nat.le_of_ble_eq_true rfl) (by decide) (by decide +kernel) hH.2.2 (moU_could (g := g) (h := h) (hL.m l1) hL.2.2.1 (q_r32 _) (q_r32 _) (Or.inl rfl)) (fun y2 f2 hy => ?_)
      obtain ⟨rfl, s2, l2⟩ := hy
      exact V_same 1174 d_lw_law_820 (by decide) (hK _ _ _ _ (hL.step (hL.2.2.1) s1 l1 s2 l2))
    · skip
      exact absurd c782 c809
  · skip
    refine V_iconst 1 d_lw_law_785 ?_
    refine V_goto 790 d_lw_law_786 (by decide) ?_
    refine V_lcI (M' := m_hs_could) (As := [_, _, _]) (q := 0) (ci := 7) d_lw_law_790 ml_lw_92 mv_hs_could (Nat.le_of_ble_eq_true rfl) rfl (Nat.le_of_ble_eq_true rfl) (by decide) (by decide +kernel) hH.2.2 (hsU_could (g := g) (h := h) hL.1 hL.2.2.1 (q_r32 _) (q_r32 _) (Or.inr rfl)) (fun y1 f1 hy => ?_)
    obtain ⟨rfl, s1, l1⟩ := hy
    refine V_aload_2 d_lw_law_793 ?_
    refine V_ald0 d_lw_law_794 ?_
    refine V_iload_3 d_lw_law_795 ?_
    refine V_iconst 1 d_lw_law_796 ?_
    refine V_iadd d_lw_law_797 ?_
    refine V_sld hH.1 d_lw_law_798 (by omega) (by omega) ?_
    refine V_ald0 d_lw_law_799 ?_
    refine V_iload_3 d_lw_law_800 ?_
    refine V_iconst 2 d_lw_law_801 ?_
    refine V_iadd d_lw_law_802 ?_
    refine V_sld hH.1 d_lw_law_803 (by omega) (by omega) ?_
    refine V_ald0 d_lw_law_804 ?_
    refine V_iload_3 d_lw_law_805 ?_
    refine V_iconst 3 d_lw_law_806 ?_
    refine V_iadd d_lw_law_807 ?_
    refine V_sld hH.1 d_lw_law_808 (by omega) (by omega) ?_
    refine V_if_eq 816 d_lw_law_809 (by decide) (q_r32 _) (fun c809 => ?_) (fun c809 => ?_)
    · skip
      exact absurd c809 c782
    · skip
      refine V_iconst 1 d_lw_law_812 ?_
      refine V_goto 817 d_lw_law_813 (by decide) ?_
      refine V_lcI (M' := m_mo_could) (As := [_, _, _]) (q := 219) (ci := 8) d_lw_law_817 ml_lw_96 mv_mo_could (Nat.le_of_ble_eq_true rfl) rfl (Nat.le_of_ble_eq_true rfl) (by decide) (by decide +kernel) hH.2.2 (moU_could (g := g) (h := h) (hL.m l1) hL.2.2.1 (q_r32 _) (q_r32 _) (Or.inr rfl)) (fun y2 f2 hy => ?_)
      obtain ⟨rfl, s2, l2⟩ := hy
      exact V_same 1174 d_lw_law_820 (by decide) (hK _ _ _ _ (hL.step (hL.2.2.1) s1 l1 s2 l2))
theorem lawc_19 (hH : lawH D C b Ls xs i cs ss) (hK : lawK D C nm b i cs ss) (hL : LI g f A) : V D C (m_law nm) 825 [.ref b, vr D 0, vr D 219, vi i] [] (274, RF g h, cs, ss) f := by
  have hi := hH.2.1
  refine V_aload_1 d_lw_law_825 ?_
  refine V_ald0 d_lw_law_826 ?_
  refine V_iload_3 d_lw_law_827 ?_
  refine V_iconst 1 d_lw_law_828 ?_
  refine V_iadd d_lw_law_829 ?_
  refine V_sld hH.1 d_lw_law_830 (by omega) (by omega) ?_
  refine V_lcI (M' := m_hs_ways) (As := [_]) (q := 0) (ci := 7) d_lw_law_831 ml_lw_97 mv_hs_ways (Nat.le_of_ble_eq_true rfl) rfl (Nat.le_of_ble_eq_true rfl) (by decide) (by decide +kernel) hH.2.2 (hsU_ways (g := g) (h := h) hL.1 hL.2.2.1 (q_r32 _)) (fun y1 f1 hy => ?_)
  obtain ⟨rfl, s1, l1⟩ := hy
  refine V_aload_2 d_lw_law_834 ?_
  refine V_ald0 d_lw_law_835 ?_
  refine V_iload_3 d_lw_law_836 ?_
  refine V_iconst 1 d_lw_law_837 ?_
  refine V_iadd d_lw_law_838 ?_
  refine V_sld hH.1 d_lw_law_839 (by omega) (by omega) ?_
  refine V_lcI (M' := m_mo_ways) (As := [_]) (q := 219) (ci := 8) d_lw_law_840 ml_lw_100 mv_mo_ways (Nat.le_of_ble_eq_true rfl) rfl (Nat.le_of_ble_eq_true rfl) (by decide) (by decide +kernel) hH.2.2 (moU_ways (g := g) (h := h) (hL.m l1) hL.2.2.1 (q_r32 _)) (fun y2 f2 hy => ?_)
  obtain ⟨rfl, s2, l2⟩ := hy
  exact V_same 1174 d_lw_law_843 (by decide) (hK _ _ _ _ (hL.step (hL.2.2.1) s1 l1 s2 l2))
theorem lawc_20 (hH : lawH D C b Ls xs i cs ss) (hK : lawK D C nm b i cs ss) (hL : LI g f A) : V D C (m_law nm) 848 [.ref b, vr D 0, vr D 219, vi i] [] (274, RF g h, cs, ss) f := by
  have hi := hH.2.1
  refine V_aload_1 d_lw_law_848 ?_
  refine V_ald0 d_lw_law_849 ?_
  refine V_iload_3 d_lw_law_850 ?_
  refine V_iconst 1 d_lw_law_851 ?_
  refine V_iadd d_lw_law_852 ?_
  refine V_sld hH.1 d_lw_law_853 (by omega) (by omega) ?_
  refine V_ald0 d_lw_law_854 ?_
  refine V_iload_3 d_lw_law_855 ?_
  refine V_iconst 2 d_lw_law_856 ?_
  refine V_iadd d_lw_law_857 ?_
  refine V_sld hH.1 d_lw_law_858 (by omega) (by omega) ?_
  refine V_lcI (M' := m_hs_hire) (As := [_, _]) (q := 0) (ci := 7) d_lw_law_859 ml_lw_101 mv_hs_hire (Nat.le_of_ble_eq_true rfl) rfl (Nat.le_of_ble_eq_true rfl) (by decide) (by decide +kernel) hH.2.2 (hsU_hire (g := g) (h := h) hL.1 hL.2.2.1 (q_r32 _) (q_r32 _)) (fun y1 f1 hy => ?_)
  obtain ⟨rfl, s1, l1⟩ := hy
  refine V_aload_2 d_lw_law_862 ?_
  refine V_ald0 d_lw_law_863 ?_
  refine V_iload_3 d_lw_law_864 ?_
  refine V_iconst 1 d_lw_law_865 ?_
  refine V_iadd d_lw_law_866 ?_
  refine V_sld hH.1 d_lw_law_867 (by omega) (by omega) ?_
  refine V_ald0 d_lw_law_868 ?_
  refine V_iload_3 d_lw_law_869 ?_
  refine V_iconst 2 d_lw_law_870 ?_
  refine V_iadd d_lw_law_871 ?_
  refine V_sld hH.1 d_lw_law_872 (by omega) (by omega) ?_
  refine V_lcI (M' := m_mo_hire) (As := [_, _]) (q := 219) (ci := 8) d_lw_law_873 ml_lw_105 mv_mo_hire (Nat.le_of_ble_eq_true rfl) rfl (Nat.le_of_ble_eq_true rfl) (by decide) (by decide +kernel) hH.2.2 (moU_hire (g := g) (h := h) (hL.m l1) hL.2.2.1 (q_r32 _) (q_r32 _)) (fun y2 f2 hy => ?_)
  obtain ⟨rfl, s2, l2⟩ := hy
  exact V_same 1174 d_lw_law_876 (by decide) (hK _ _ _ _ (hL.step (W_hire hL.2.2.1 _ _) s1 l1 s2 l2))
theorem lawc_21 (hH : lawH D C b Ls xs i cs ss) (hK : lawK D C nm b i cs ss) (hL : LI g f A) : V D C (m_law nm) 881 [.ref b, vr D 0, vr D 219, vi i] [] (274, RF g h, cs, ss) f := by
  have hi := hH.2.1
  refine V_aload_1 d_lw_law_881 ?_
  refine V_lcI (M' := m_hs_undo) (As := []) (q := 0) (ci := 7) d_lw_law_882 ml_lw_106 mv_hs_undo (Nat.le_of_ble_eq_true rfl) rfl (Nat.le_of_ble_eq_true rfl) (by decide) (by decide +kernel) hH.2.2 (hsU_undo (g := g) (h := h) hL.1 hL.2.2.1) (fun y1 f1 hy => ?_)
  obtain ⟨rfl, s1, l1⟩ := hy
  refine V_aload_2 d_lw_law_885 ?_
  refine V_lcI (M' := m_mo_undo) (As := []) (q := 219) (ci := 8) d_lw_law_886 ml_lw_110 mv_mo_undo (Nat.le_of_ble_eq_true rfl) rfl (Nat.le_of_ble_eq_true rfl) (by decide) (by decide +kernel) hH.2.2 (moU_undo (g := g) (h := h) (hL.m l1) hL.2.2.1) (fun y2 f2 hy => ?_)
  obtain ⟨rfl, s2, l2⟩ := hy
  exact V_same 1174 d_lw_law_889 (by decide) (hK _ _ _ _ (hL.step (W_undo hL.2.2.1) s1 l1 s2 l2))
theorem lawc_22 (hH : lawH D C b Ls xs i cs ss) (hK : lawK D C nm b i cs ss) (hL : LI g f A) : V D C (m_law nm) 894 [.ref b, vr D 0, vr D 219, vi i] [] (274, RF g h, cs, ss) f := by
  have hi := hH.2.1
  refine V_aload_1 d_lw_law_894 ?_
  refine V_ald0 d_lw_law_895 ?_
  refine V_iload_3 d_lw_law_896 ?_
  refine V_iconst 1 d_lw_law_897 ?_
  refine V_iadd d_lw_law_898 ?_
  refine V_sld hH.1 d_lw_law_899 (by omega) (by omega) ?_
  refine V_ald0 d_lw_law_900 ?_
  refine V_iload_3 d_lw_law_901 ?_
  refine V_iconst 2 d_lw_law_902 ?_
  refine V_iadd d_lw_law_903 ?_
  refine V_sld hH.1 d_lw_law_904 (by omega) (by omega) ?_
  refine V_ald0 d_lw_law_905 ?_
  refine V_iload_3 d_lw_law_906 ?_
  refine V_iconst 3 d_lw_law_907 ?_
  refine V_iadd d_lw_law_908 ?_
  refine V_sld hH.1 d_lw_law_909 (by omega) (by omega) ?_
  refine V_lcI (M' := m_hs_crew) (As := [_, _, _]) (q := 0) (ci := 7) d_lw_law_910 ml_lw_111 mv_hs_crew (Nat.le_of_ble_eq_true rfl) rfl (Nat.le_of_ble_eq_true rfl) (by decide) (by decide +kernel) hH.2.2 (hsU_crew (g := g) (h := h) hL.1 hL.2.2.1 (q_r32 _) (q_r32 _) (q_r32 _)) (fun y1 f1 hy => ?_)
  obtain ⟨rfl, s1, l1⟩ := hy
  refine V_aload_2 d_lw_law_913 ?_
  refine V_ald0 d_lw_law_914 ?_
  refine V_iload_3 d_lw_law_915 ?_
  refine V_iconst 1 d_lw_law_916 ?_
  refine V_iadd d_lw_law_917 ?_
  refine V_sld hH.1 d_lw_law_918 (by omega) (by omega) ?_
  refine V_ald0 d_lw_law_919 ?_
  refine V_iload_3 d_lw_law_920 ?_
  refine V_iconst 2 d_lw_law_921 ?_
  refine V_iadd d_lw_law_922 ?_
  refine V_sld hH.1 d_lw_law_923 (by omega) (by omega) ?_
  refine V_ald0 d_lw_law_924 ?_
  refine V_iload_3 d_lw_law_925 ?_
  refine V_iconst 3 d_lw_law_926 ?_
  refine V_iadd d_lw_law_927 ?_
  refine V_sld hH.1 d_lw_law_928 (by omega) (by omega) ?_
  refine V_lcI (M' := m_mo_crew) (As := [_, _, _]) (q := 219) (ci := 8) d_lw_law_929 ml_lw_114 mv_mo_crew (Nat.le_of_ble_eq_true rfl) rfl (Nat.le_of_ble_eq_true rfl) (by decide) (by decide +kernel) hH.2.2 (moU_crew (g := g) (h := h) (hL.m l1) hL.2.2.1 (q_r32 _) (q_r32 _) (q_r32 _)) (fun y2 f2 hy => ?_)
  obtain ⟨rfl, s2, l2⟩ := hy
  exact V_same 1174 d_lw_law_932 (by decide) (hK _ _ _ _ (hL.step (hL.2.2.1) s1 l1 s2 l2))
theorem lawc_23 (hH : lawH D C b Ls xs i cs ss) (hK : lawK D C nm b i cs ss) (hL : LI g f A) : V D C (m_law nm) 937 [.ref b, vr D 0, vr D 219, vi i] [] (274, RF g h, cs, ss) f := by
  have hi := hH.2.1
  refine V_aload_1 d_lw_law_937 ?_
  refine V_ald0 d_lw_law_938 ?_
  refine V_iload_3 d_lw_law_939 ?_
  refine V_iconst 1 d_lw_law_940 ?_
  refine V_iadd d_lw_law_941 ?_
  refine V_sld hH.1 d_lw_law_942 (by omega) (by omega) ?_
  refine V_ald0 d_lw_law_943 ?_
  refine V_iload_3 d_lw_law_944 ?_
  refine V_iconst 2 d_lw_law_945 ?_
  refine V_iadd d_lw_law_946 ?_
  refine V_sld hH.1 d_lw_law_947 (by omega) (by omega) ?_
  refine V_lcI (M' := m_hs_take) (As := [_, _]) (q := 0) (ci := 7) d_lw_law_948 ml_lw_115 mv_hs_take (Nat.le_of_ble_eq_true rfl) rfl (Nat.le_of_ble_eq_true rfl) (by decide) (by decide +kernel) hH.2.2 (hsU_take (g := g) (h := h) hL.1 hL.2.2.1 (q_r32 _) (q_r32 _)) (fun y1 f1 hy => ?_)
  obtain ⟨rfl, s1, l1⟩ := hy
  refine V_aload_2 d_lw_law_951 ?_
  refine V_ald0 d_lw_law_952 ?_
  refine V_iload_3 d_lw_law_953 ?_
  refine V_iconst 1 d_lw_law_954 ?_
  refine V_iadd d_lw_law_955 ?_
  refine V_sld hH.1 d_lw_law_956 (by omega) (by omega) ?_
  refine V_ald0 d_lw_law_957 ?_
  refine V_iload_3 d_lw_law_958 ?_
  refine V_iconst 2 d_lw_law_959 ?_
  refine V_iadd d_lw_law_960 ?_
  refine V_sld hH.1 d_lw_law_961 (by omega) (by omega) ?_
  refine V_lcI (M' := m_mo_take) (As := [_, _]) (q := 219) (ci := 8) d_lw_law_962 ml_lw_118 mv_mo_take (Nat.le_of_ble_eq_true rfl) rfl (Nat.le_of_ble_eq_true rfl) (by decide) (by decide +kernel) hH.2.2 (moU_take (g := g) (h := h) (hL.m l1) hL.2.2.1 (q_r32 _) (q_r32 _)) (fun y2 f2 hy => ?_)
  obtain ⟨rfl, s2, l2⟩ := hy
  exact V_same 1174 d_lw_law_965 (by decide) (hK _ _ _ _ (hL.step (W_take hL.2.2.1 (q_r32 _)) s1 l1 s2 l2))
theorem lawc_24 (hH : lawH D C b Ls xs i cs ss) (hK : lawK D C nm b i cs ss) (hL : LI g f A) : V D C (m_law nm) 970 [.ref b, vr D 0, vr D 219, vi i] [] (274, RF g h, cs, ss) f := by
  have hi := hH.2.1
  refine V_aload_1 d_lw_law_970 ?_
  refine V_ald0 d_lw_law_971 ?_
  refine V_iload_3 d_lw_law_972 ?_
  refine V_iconst 1 d_lw_law_973 ?_
  refine V_iadd d_lw_law_974 ?_
  refine V_sld hH.1 d_lw_law_975 (by omega) (by omega) ?_
  refine V_ald0 d_lw_law_976 ?_
  refine V_iload_3 d_lw_law_977 ?_
  refine V_iconst 2 d_lw_law_978 ?_
  refine V_iadd d_lw_law_979 ?_
  refine V_sld hH.1 d_lw_law_980 (by omega) (by omega) ?_
  refine V_ald0 d_lw_law_981 ?_
  refine V_iload_3 d_lw_law_982 ?_
  refine V_iconst 3 d_lw_law_983 ?_
  refine V_iadd d_lw_law_984 ?_
  refine V_sld hH.1 d_lw_law_985 (by omega) (by omega) ?_
  refine V_ald0 d_lw_law_986 ?_
  refine V_iload_3 d_lw_law_987 ?_
  refine V_iconst 4 d_lw_law_988 ?_
  refine V_iadd d_lw_law_989 ?_
  refine V_sld hH.1 d_lw_law_990 (by omega) (by omega) ?_
  refine V_lcI (M' := m_hs_crowd) (As := [_, _, _, _]) (q := 0) (ci := 7) d_lw_law_991 ml_lw_119 mv_hs_crowd (Nat.le_of_ble_eq_true rfl) rfl (Nat.le_of_ble_eq_true rfl) (by decide) (by decide +kernel) hH.2.2 (hsU_crowd (g := g) (h := h) hL.1 hL.2.2.1 (q_r32 _) (q_r32 _) (q_r32 _) (q_r32 _)) (fun y1 f1 hy => ?_)
  obtain ⟨rfl, s1, l1⟩ := hy
  refine V_aload_2 d_lw_law_994 ?_
  refine V_ald0 d_lw_law_995 ?_
  refine V_iload_3 d_lw_law_996 ?_
  refine V_iconst 1 d_lw_law_997 ?_
  refine V_iadd d_lw_law_998 ?_
  refine V_sld hH.1 d_lw_law_999 (by omega) (by omega) ?_
  refine V_ald0 d_lw_law_1000 ?_
  refine V_iload_3 d_lw_law_1001 ?_
  refine V_iconst 2 d_lw_law_1002 ?_
  refine V_iadd d_lw_law_1003 ?_
  refine V_sld hH.1 d_lw_law_1004 (by omega) (by omega) ?_
  refine V_ald0 d_lw_law_1005 ?_
  refine V_iload_3 d_lw_law_1006 ?_
  refine V_iconst 3 d_lw_law_1007 ?_
  refine V_iadd d_lw_law_1008 ?_
  refine V_sld hH.1 d_lw_law_1009 (by omega) (by omega) ?_
  refine V_ald0 d_lw_law_1010 ?_
  refine V_iload_3 d_lw_law_1011 ?_
  refine V_iconst 4 d_lw_law_1012 ?_
  refine V_iadd d_lw_law_1013 ?_
  refine V_sld hH.1 d_lw_law_1014 (by omega) (by omega) ?_
  refine V_lcI (M' := m_mo_crowd) (As := [_, _, _, _]) (q := 219) (ci := 8) d_lw_law_1015 ml_lw_123 mv_mo_crowd (Nat.le_of_ble_eq_true rfl) rfl (Nat.le_of_ble_eq_true rfl) (by decide) (by decide +kernel) hH.2.2 (moU_crowd (g := g) (h := h) (hL.m l1) hL.2.2.1 (q_r32 _) (q_r32 _) (q_r32 _) (q_r32 _)) (fun y2 f2 hy => ?_)
  obtain ⟨rfl, s2, l2⟩ := hy
  exact V_same 1174 d_lw_law_1018 (by decide) (hK _ _ _ _ (hL.step (hL.2.2.1) s1 l1 s2 l2))
theorem lawc_25 (hH : lawH D C b Ls xs i cs ss) (hK : lawK D C nm b i cs ss) (hL : LI g f A) : V D C (m_law nm) 1023 [.ref b, vr D 0, vr D 219, vi i] [] (274, RF g h, cs, ss) f := by
  have hi := hH.2.1
  refine V_aload_1 d_lw_law_1023 ?_
  refine V_ald0 d_lw_law_1024 ?_
  refine V_iload_3 d_lw_law_1025 ?_
  refine V_iconst 1 d_lw_law_1026 ?_
  refine V_iadd d_lw_law_1027 ?_
  refine V_sld hH.1 d_lw_law_1028 (by omega) (by omega) ?_
  refine V_ald0 d_lw_law_1029 ?_
  refine V_iload_3 d_lw_law_1030 ?_
  refine V_iconst 2 d_lw_law_1031 ?_
  refine V_iadd d_lw_law_1032 ?_
  refine V_sld hH.1 d_lw_law_1033 (by omega) (by omega) ?_
  refine V_lcI (M' := m_hs_shade) (As := [_, _]) (q := 0) (ci := 7) d_lw_law_1034 ml_lw_124 mv_hs_shade (Nat.le_of_ble_eq_true rfl) rfl (Nat.le_of_ble_eq_true rfl) (by decide) (by decide +kernel) hH.2.2 (hsU_shade (g := g) (h := h) hL.1 hL.2.2.1 (q_r32 _) (q_r32 _)) (fun y1 f1 hy => ?_)
  obtain ⟨rfl, s1, l1⟩ := hy
  refine V_aload_2 d_lw_law_1037 ?_
  refine V_ald0 d_lw_law_1038 ?_
  refine V_iload_3 d_lw_law_1039 ?_
  refine V_iconst 1 d_lw_law_1040 ?_
  refine V_iadd d_lw_law_1041 ?_
  refine V_sld hH.1 d_lw_law_1042 (by omega) (by omega) ?_
  refine V_ald0 d_lw_law_1043 ?_
  refine V_iload_3 d_lw_law_1044 ?_
  refine V_iconst 2 d_lw_law_1045 ?_
  refine V_iadd d_lw_law_1046 ?_
  refine V_sld hH.1 d_lw_law_1047 (by omega) (by omega) ?_
  refine V_lcI (M' := m_mo_shade) (As := [_, _]) (q := 219) (ci := 8) d_lw_law_1048 ml_lw_127 mv_mo_shade (Nat.le_of_ble_eq_true rfl) rfl (Nat.le_of_ble_eq_true rfl) (by decide) (by decide +kernel) hH.2.2 (moU_shade (g := g) (h := h) (hL.m l1) hL.2.2.1 (q_r32 _) (q_r32 _)) (fun y2 f2 hy => ?_)
  obtain ⟨rfl, s2, l2⟩ := hy
  exact V_same 1174 d_lw_law_1051 (by decide) (hK _ _ _ _ (hL.step (hL.2.2.1) s1 l1 s2 l2))
theorem lawc_26 (hH : lawH D C b Ls xs i cs ss) (hK : lawK D C nm b i cs ss) (hL : LI g f A) : V D C (m_law nm) 1056 [.ref b, vr D 0, vr D 219, vi i] [] (274, RF g h, cs, ss) f := by
  have hi := hH.2.1
  refine V_aload_1 d_lw_law_1056 ?_
  refine V_ald0 d_lw_law_1057 ?_
  refine V_iload_3 d_lw_law_1058 ?_
  refine V_iconst 1 d_lw_law_1059 ?_
  refine V_iadd d_lw_law_1060 ?_
  refine V_sld hH.1 d_lw_law_1061 (by omega) (by omega) ?_
  refine V_lcI (M' := m_hs_seed) (As := [_]) (q := 0) (ci := 7) d_lw_law_1062 ml_lw_128 mv_hs_seed (Nat.le_of_ble_eq_true rfl) rfl (Nat.le_of_ble_eq_true rfl) (by decide) (by decide +kernel) hH.2.2 (hsU_seed (g := g) (h := h) hL.1 hL.2.2.1 (q_r32 _)) (fun y1 f1 hy => ?_)
  obtain ⟨rfl, s1, l1⟩ := hy
  refine V_aload_2 d_lw_law_1065 ?_
  refine V_ald0 d_lw_law_1066 ?_
  refine V_iload_3 d_lw_law_1067 ?_
  refine V_iconst 1 d_lw_law_1068 ?_
  refine V_iadd d_lw_law_1069 ?_
  refine V_sld hH.1 d_lw_law_1070 (by omega) (by omega) ?_
  refine V_lcI (M' := m_mo_seed) (As := [_]) (q := 219) (ci := 8) d_lw_law_1071 ml_lw_131 mv_mo_seed (Nat.le_of_ble_eq_true rfl) rfl (Nat.le_of_ble_eq_true rfl) (by decide) (by decide +kernel) hH.2.2 (moU_seed (g := g) (h := h) (hL.m l1) hL.2.2.1 (q_r32 _)) (fun y2 f2 hy => ?_)
  obtain ⟨rfl, s2, l2⟩ := hy
  exact V_same 1174 d_lw_law_1074 (by decide) (hK _ _ _ _ (hL.step (W_seed hL.2.2.1 (q_r32 _)) s1 l1 s2 l2))
theorem lawc_27 (hH : lawH D C b Ls xs i cs ss) (hK : lawK D C nm b i cs ss) (hL : LI g f A) : V D C (m_law nm) 1079 [.ref b, vr D 0, vr D 219, vi i] [] (274, RF g h, cs, ss) f := by
  have hi := hH.2.1
  refine V_aload_1 d_lw_law_1079 ?_
  refine V_ald0 d_lw_law_1080 ?_
  refine V_iload_3 d_lw_law_1081 ?_
  refine V_iconst 1 d_lw_law_1082 ?_
  refine V_iadd d_lw_law_1083 ?_
  refine V_sld hH.1 d_lw_law_1084 (by omega) (by omega) ?_
  refine V_ald0 d_lw_law_1085 ?_
  refine V_iload_3 d_lw_law_1086 ?_
  refine V_iconst 2 d_lw_law_1087 ?_
  refine V_iadd d_lw_law_1088 ?_
  refine V_sld hH.1 d_lw_law_1089 (by omega) (by omega) ?_
  refine V_lcI (M' := m_hs_days) (As := [_, _]) (q := 0) (ci := 7) d_lw_law_1090 ml_lw_132 mv_hs_days (Nat.le_of_ble_eq_true rfl) rfl (Nat.le_of_ble_eq_true rfl) (by decide) (by decide +kernel) hH.2.2 (hsU_days (g := g) (h := h) hL.1 hL.2.2.1 (q_r32 _) (q_r32 _)) (fun y1 f1 hy => ?_)
  obtain ⟨rfl, s1, l1⟩ := hy
  refine V_aload_2 d_lw_law_1093 ?_
  refine V_ald0 d_lw_law_1094 ?_
  refine V_iload_3 d_lw_law_1095 ?_
  refine V_iconst 1 d_lw_law_1096 ?_
  refine V_iadd d_lw_law_1097 ?_
  refine V_sld hH.1 d_lw_law_1098 (by omega) (by omega) ?_
  refine V_ald0 d_lw_law_1099 ?_
  refine V_iload_3 d_lw_law_1100 ?_
  refine V_iconst 2 d_lw_law_1101 ?_
  refine V_iadd d_lw_law_1102 ?_
  refine V_sld hH.1 d_lw_law_1103 (by omega) (by omega) ?_
  refine V_lcI (M' := m_mo_days) (As := [_, _]) (q := 219) (ci := 8) d_lw_law_1104 ml_lw_135 mv_mo_days (Nat.le_of_ble_eq_true rfl) rfl (Nat.le_of_ble_eq_true rfl) (by decide) (by decide +kernel) hH.2.2 (moU_days (g := g) (h := h) (hL.m l1) hL.2.2.1 (q_r32 _) (q_r32 _)) (fun y2 f2 hy => ?_)
  obtain ⟨rfl, s2, l2⟩ := hy
  exact V_same 1174 d_lw_law_1107 (by decide) (hK _ _ _ _ (hL.step (W_days hL.2.2.1 _ _) s1 l1 s2 l2))
theorem lawc_28 (hH : lawH D C b Ls xs i cs ss) (hK : lawK D C nm b i cs ss) (hL : LI g f A) : V D C (m_law nm) 1112 [.ref b, vr D 0, vr D 219, vi i] [] (274, RF g h, cs, ss) f := by
  have hi := hH.2.1
  refine V_aload_1 d_lw_law_1112 ?_
  refine V_lcI (M' := m_hs_average) (As := []) (q := 0) (ci := 7) d_lw_law_1113 ml_lw_136 mv_hs_average (Nat.le_of_ble_eq_true rfl) rfl (Nat.le_of_ble_eq_true rfl) (by decide) (by decide +kernel) hH.2.2 (hsU_average (g := g) (h := h) hL.1 hL.2.2.1) (fun y1 f1 hy => ?_)
  obtain ⟨rfl, s1, l1⟩ := hy
  refine V_aload_2 d_lw_law_1116 ?_
  refine V_lcI (M' := m_mo_average) (As := []) (q := 219) (ci := 8) d_lw_law_1117 ml_lw_139 mv_mo_average (Nat.le_of_ble_eq_true rfl) rfl (Nat.le_of_ble_eq_true rfl) (by decide) (by decide +kernel) hH.2.2 (moU_average (g := g) (h := h) (hL.m l1) hL.2.2.1) (fun y2 f2 hy => ?_)
  obtain ⟨rfl, s2, l2⟩ := hy
  exact V_same 1174 d_lw_law_1120 (by decide) (hK _ _ _ _ (hL.step (hL.2.2.1) s1 l1 s2 l2))
theorem lawc_29 (hH : lawH D C b Ls xs i cs ss) (hK : lawK D C nm b i cs ss) (hL : LI g f A) : V D C (m_law nm) 1125 [.ref b, vr D 0, vr D 219, vi i] [] (274, RF g h, cs, ss) f := by
  have hi := hH.2.1
  refine V_aload_1 d_lw_law_1125 ?_
  refine V_lcI (M' := m_hs_image) (As := []) (q := 0) (ci := 7) d_lw_law_1126 ml_lw_140 mv_hs_image (Nat.le_of_ble_eq_true rfl) rfl (Nat.le_of_ble_eq_true rfl) (by decide) (by decide +kernel) hH.2.2 (hsU_image (g := g) (h := h) hL.1 hL.2.2.1) (fun y1 f1 hy => ?_)
  obtain ⟨rfl, s1, l1⟩ := hy
  refine V_aload_2 d_lw_law_1129 ?_
  refine V_lcI (M' := m_mo_image) (As := []) (q := 219) (ci := 8) d_lw_law_1130 ml_lw_143 mv_mo_image (Nat.le_of_ble_eq_true rfl) rfl (Nat.le_of_ble_eq_true rfl) (by decide) (by decide +kernel) hH.2.2 (moU_image (g := g) (h := h) (hL.m l1) hL.2.2.1) (fun y2 f2 hy => ?_)
  obtain ⟨rfl, s2, l2⟩ := hy
  exact V_same 1174 d_lw_law_1133 (by decide) (hK _ _ _ _ (hL.step (W_image hL.2.2.1) s1 l1 s2 l2))
theorem lawc_30 (hH : lawH D C b Ls xs i cs ss) (hK : lawK D C nm b i cs ss) (hL : LI g f A) : V D C (m_law nm) 1138 [.ref b, vr D 0, vr D 219, vi i] [] (274, RF g h, cs, ss) f := by
  have hi := hH.2.1
  refine V_aload_1 d_lw_law_1138 ?_
  refine V_ald0 d_lw_law_1139 ?_
  refine V_iload_3 d_lw_law_1140 ?_
  refine V_iconst 1 d_lw_law_1141 ?_
  refine V_iadd d_lw_law_1142 ?_
  refine V_sld hH.1 d_lw_law_1143 (by omega) (by omega) ?_
  refine V_lcI (M' := m_hs_octet) (As := [_]) (q := 0) (ci := 7) d_lw_law_1144 ml_lw_144 mv_hs_octet (Nat.le_of_ble_eq_true rfl) rfl (Nat.le_of_ble_eq_true rfl) (by decide) (by decide +kernel) hH.2.2 (hsU_octet (g := g) (h := h) hL.1 hL.2.2.1 (q_r32 _)) (fun y1 f1 hy => ?_)
  obtain ⟨rfl, s1, l1⟩ := hy
  refine V_aload_2 d_lw_law_1147 ?_
  refine V_ald0 d_lw_law_1148 ?_
  refine V_iload_3 d_lw_law_1149 ?_
  refine V_iconst 1 d_lw_law_1150 ?_
  refine V_iadd d_lw_law_1151 ?_
  refine V_sld hH.1 d_lw_law_1152 (by omega) (by omega) ?_
  refine V_lcI (M' := m_mo_octet) (As := [_]) (q := 219) (ci := 8) d_lw_law_1153 ml_lw_147 mv_mo_octet (Nat.le_of_ble_eq_true rfl) rfl (Nat.le_of_ble_eq_true rfl) (by decide) (by decide +kernel) hH.2.2 (moU_octet (g := g) (h := h) (hL.m l1) hL.2.2.1 (q_r32 _)) (fun y2 f2 hy => ?_)
  obtain ⟨rfl, s2, l2⟩ := hy
  exact V_same 1174 d_lw_law_1156 (by decide) (hK _ _ _ _ (hL.step (hL.2.2.1) s1 l1 s2 l2))
theorem lawc_31 (hH : lawH D C b Ls xs i cs ss) (hK : lawK D C nm b i cs ss) (hL : LI g f A) : V D C (m_law nm) 1161 [.ref b, vr D 0, vr D 219, vi i] [] (274, RF g h, cs, ss) f := by
  have hi := hH.2.1
  refine V_aload_1 d_lw_law_1161 ?_
  refine V_lcI (M' := m_hs_on) (As := []) (q := 0) (ci := 7) d_lw_law_1162 ml_lw_148 mv_hs_on (Nat.le_of_ble_eq_true rfl) rfl (Nat.le_of_ble_eq_true rfl) (by decide) (by decide +kernel) hH.2.2 (hsU_on (g := g) (h := h) hL.1 hL.2.2.1) (fun y1 f1 hy => ?_)
  obtain ⟨rfl, s1, l1⟩ := hy
  refine V_aload_2 d_lw_law_1165 ?_
  refine V_lcI (M' := m_mo_on) (As := []) (q := 219) (ci := 8) d_lw_law_1166 ml_lw_151 mv_mo_on (Nat.le_of_ble_eq_true rfl) rfl (Nat.le_of_ble_eq_true rfl) (by decide) (by decide +kernel) hH.2.2 (moU_on (g := g) (h := h) (hL.m l1) hL.2.2.1) (fun y2 f2 hy => ?_)
  obtain ⟨rfl, s2, l2⟩ := hy
  exact V_same 1174 d_lw_law_1169 (by decide) (hK _ _ _ _ (hL.step (W_on hL.2.2.1) s1 l1 s2 l2))
theorem law_loop (hX : q_sc D C b Ls xs) (hLs : Ls ≤ 3072) (hr : cs ≤ 600000 ∧ ss ≤ 7302250) (hE : ∀ (i g h : Int) (f : q_F), V D C (m_law nm) 1180 [.ref b, vr D 0, vr D 219, vi i] [] (274, RF g h, cs, ss) f) : ∀ (n : Nat) (i g h : Int) (f : q_F) (A : q_As), 0 ≤ i → i ≤ 3100 → (Ls : Int) - i ≤ n → LI g f A → V D C (m_law nm) 18 [.ref b, vr D 0, vr D 219, vi i] [] (274, RF g h, cs, ss) f := by
  have head : ∀ (i g h : Int) (f : q_F), 0 ≤ i → i ≤ 3100 → (i + 6 ≤ (Ls : Int) → V D C (m_law nm) 27 [.ref b, vr D 0, vr D 219, vi i] [] (274, RF g h, cs, ss) f) → V D C (m_law nm) 18 [.ref b, vr D 0, vr D 219, vi i] [] (274, RF g h, cs, ss) f := by
    intro i g h f h0 h1 k
    refine V_iload_3 d_lw_law_18 ?_
    refine V_ald0 d_lw_law_19 ?_
    refine V_slen hX d_lw_law_20 ?_
    refine V_bipush 6 d_lw_law_21 (by decide) ?_
    refine V_isub d_lw_law_23 ?_
    refine V_icmp_gt 1180 d_lw_law_24 (by decide) (by omega) (by omega) (fun c => ?_) (fun c => ?_)
    · exact hE i g h f
    · exact k (by omega)
  intro n
  induction n with
  | zero =>
    intro i g h f A h0 h1 hn hL
    exact head i g h f h0 h1 (fun hc => by omega)
  | succ n ih =>
    intro i g h f A h0 h1 hn hL
    refine head i g h f h0 h1 (fun hc => ?_)
    have hH : lawH D C b Ls xs i cs ss := ⟨hX, ⟨h0, hc, hLs⟩, hr⟩
    have hK : lawK D C nm b i cs ss := by
      intro g2 h2 f2 A2 hL2
      refine V_iinc_3 d_lw_law_1174 rfl ?_
      refine V_goto 18 d_lw_law_1177 (by decide) ?_
      exact ih (i + 6) g2 h2 f2 A2 (by omega) (by omega) (by omega) hL2
    refine V_ald0 d_lw_law_27 ?_
    refine V_iload_3 d_lw_law_28 ?_
    refine V_sld hX d_lw_law_29 (by omega) (by omega) ?_
    refine V_bipush 31 d_lw_law_30 (by decide) ?_
    refine V_iand d_lw_law_32 ?_
    have hw := q_and31 (xs i.toNat).toInt
    generalize q_and (xs i.toNat).toInt 31 = w at hw
    refine V_tsw 1174 d_lw_law_33 (by decide) (by omega) (fun c => by omega) (fun c => ?_)
    rcases (show w = 0 ∨ w = 1 ∨ w = 2 ∨ w = 3 ∨ w = 4 ∨ w = 5 ∨ w = 6 ∨ w = 7 ∨ w = 8 ∨ w = 9 ∨ w = 10 ∨ w = 11 ∨ w = 12 ∨ w = 13 ∨ w = 14 ∨ w = 15 ∨ w = 16 ∨ w = 17 ∨ w = 18 ∨ w = 19 ∨ w = 20 ∨ w = 21 ∨ w = 22 ∨ w = 23 ∨ w = 24 ∨ w = 25 ∨ w = 26 ∨ w = 27 ∨ w = 28 ∨ w = 29 ∨ w = 30 ∨ w = 31 by omega) with rfl | rfl | rfl | rfl | rfl | rfl | rfl | rfl | rfl | rfl | rfl | rfl | rfl | rfl | rfl | rfl | rfl | rfl | rfl | rfl | rfl | rfl | rfl | rfl | rfl | rfl | rfl | rfl | rfl | rfl | rfl | rfl
    · exact V_tsi 176 d_lw_law_33 (by decide) (by decide) rfl (by decide) (lawc_0 hH hK hL)
    · exact V_tsi 239 d_lw_law_33 (by decide) (by decide) rfl (by decide) (lawc_1 hH hK hL)
    · exact V_tsi 262 d_lw_law_33 (by decide) (by decide) rfl (by decide) (lawc_2 hH hK hL)
    · exact V_tsi 275 d_lw_law_33 (by decide) (by decide) rfl (by decide) (lawc_3 hH hK hL)
    · exact V_tsi 298 d_lw_law_33 (by decide) (by decide) rfl (by decide) (lawc_4 hH hK hL)
    · exact V_tsi 321 d_lw_law_33 (by decide) (by decide) rfl (by decide) (lawc_5 hH hK hL)
    · exact V_tsi 364 d_lw_law_33 (by decide) (by decide) rfl (by decide) (lawc_6 hH hK hL)
    · exact V_tsi 407 d_lw_law_33 (by decide) (by decide) rfl (by decide) (lawc_7 hH hK hL)
    · exact V_tsi 440 d_lw_law_33 (by decide) (by decide) rfl (by decide) (lawc_8 hH hK hL)
    · exact V_tsi 473 d_lw_law_33 (by decide) (by decide) rfl (by decide) (lawc_9 hH hK hL)
    · exact V_tsi 506 d_lw_law_33 (by decide) (by decide) rfl (by decide) (lawc_10 hH hK hL)
    · exact V_tsi 539 d_lw_law_33 (by decide) (by decide) rfl (by decide) (lawc_11 hH hK hL)
    · exact V_tsi 598 d_lw_law_33 (by decide) (by decide) rfl (by decide) (lawc_12 hH hK hL)
    · exact V_tsi 631 d_lw_law_33 (by decide) (by decide) rfl (by decide) (lawc_13 hH hK hL)
    · exact V_tsi 664 d_lw_law_33 (by decide) (by decide) rfl (by decide) (lawc_14 hH hK hL)
    · exact V_tsi 697 d_lw_law_33 (by decide) (by decide) rfl (by decide) (lawc_15 hH hK hL)
    · exact V_tsi 720 d_lw_law_33 (by decide) (by decide) rfl (by decide) (lawc_16 hH hK hL)
    · exact V_tsi 743 d_lw_law_33 (by decide) (by decide) rfl (by decide) (lawc_17 hH hK hL)
    · exact V_tsi 766 d_lw_law_33 (by decide) (by decide) rfl (by decide) (lawc_18 hH hK hL)
    · exact V_tsi 825 d_lw_law_33 (by decide) (by decide) rfl (by decide) (lawc_19 hH hK hL)
    · exact V_tsi 848 d_lw_law_33 (by decide) (by decide) rfl (by decide) (lawc_20 hH hK hL)
    · exact V_tsi 881 d_lw_law_33 (by decide) (by decide) rfl (by decide) (lawc_21 hH hK hL)
    · exact V_tsi 894 d_lw_law_33 (by decide) (by decide) rfl (by decide) (lawc_22 hH hK hL)
    · exact V_tsi 937 d_lw_law_33 (by decide) (by decide) rfl (by decide) (lawc_23 hH hK hL)
    · exact V_tsi 970 d_lw_law_33 (by decide) (by decide) rfl (by decide) (lawc_24 hH hK hL)
    · exact V_tsi 1023 d_lw_law_33 (by decide) (by decide) rfl (by decide) (lawc_25 hH hK hL)
    · exact V_tsi 1056 d_lw_law_33 (by decide) (by decide) rfl (by decide) (lawc_26 hH hK hL)
    · exact V_tsi 1079 d_lw_law_33 (by decide) (by decide) rfl (by decide) (lawc_27 hH hK hL)
    · exact V_tsi 1112 d_lw_law_33 (by decide) (by decide) rfl (by decide) (lawc_28 hH hK hL)
    · exact V_tsi 1125 d_lw_law_33 (by decide) (by decide) rfl (by decide) (lawc_29 hH hK hL)
    · exact V_tsi 1138 d_lw_law_33 (by decide) (by decide) rfl (by decide) (lawc_30 hH hK hL)
    · exact V_tsi 1161 d_lw_law_33 (by decide) (by decide) rfl (by decide) (lawc_31 hH hK hL)
end LAW2
