/-! the reference: own words, numbers, names -/
theorem OkI.mn {D : q_D} {M : q_M} {as : List Value} {z : q_Z} {f : q_F} {P P' : Int → q_F → Prop} (h : OkI D M as z f P) (hp : ∀ x f', P x f' → P' x f') : OkI D M as z f P' := Ok0.mono h (fun v f' hv => by
  obtain ⟨x, e, hx⟩ := hv
  exact ⟨x, e, hp x f' hx⟩)
section RL2
variable {D : q_D} {f f' : q_F} {A : q_As} {g h : Int} {T : Int → Int} {N p e : Int}
theorem ok_isHereA (hT : mpS f T N (.inr (p, e))) (hw : mW f) (i : Nat) (hi : i < 25) {c : Int} (hc : c = 221 + (i : Int)) : OkI D m_mo_isHere [vr D 219, vr D c] (Zg g h) (q_up f 219 2 p) (fun x f' => ((x = 1 ∧ wd T N p e = i) ∨ (x = 0 ∧ ¬ wd T N p e = i)) ∧ f' = q_up f 219 2 p) := by
  subst hc
  refine (ok_isHere hT.pl (hw.mk ((mK.refl f).up (by decide))) hi).mn (fun x f' hv => ?_)
  exact ⟨hv.1, by rw [hv.2, q_up_up]⟩
theorem ok_isOwnHere (hT : mpS f T N (.inr (p, e))) (hw : mW f) : OkI D m_mo_isOwnHere [vr D 219] (Zg g h) (q_up f 219 2 p) (fun x f' => ((x = 1 ∧ ¬ wd T N p e = -1) ∨ (x = 0 ∧ wd T N p e = -1)) ∧ f' = q_up f 219 2 p) := by
  have hwr := wd_rg (T := T) (N := N) p e
  refine OkB_of (L0 := [vr D 219, vu]) mi_mo_isOwnHere rfl rfl (Nat.le_of_ble_eq_true rfl) (fun C hR => ?_)
  have K5 : ∀ x : Int, (x = 1 ∧ ¬ wd T N p e = -1) ∨ (x = 0 ∧ ∀ i : Int, 0 ≤ i → i < 25 → ¬ wd T N p e = i) → ∀ u : Value, V D C m_mo_isOwnHere 320 [vr D 219, u] [vi x] (Zg g h) (q_up f 219 2 p) := by
    intro x hx u
    refine V_istore_1 d_mo_isOwnHere_320 rfl ?_
    refine V_iload_1 d_mo_isOwnHere_321 ?_
    refine V_ireturn d_mo_isOwnHere_322 (hR _ _ (by rcases hx with h | h <;> omega) ?_)
    refine ⟨?_, rfl⟩
    rcases hx with h | ⟨h1, h2⟩
    · exact Or.inl h
    · right
      have := h2 (wd T N p e)
      exact ⟨h1, by omega⟩
  have K4 : ∀ x : Int, (x = 1 ∧ ¬ wd T N p e = -1) ∨ (x = 0 ∧ ∀ i : Int, 0 ≤ i → i < 24 → ¬ wd T N p e = i) → ∀ u : Value, V D C m_mo_isOwnHere 299 [vr D 219, u] [vi x] (Zg g h) (q_up f 219 2 p) := by
    intro x hx u
    rcases hx with ⟨rfl, hx⟩ | ⟨rfl, hx⟩
    · skip
      refine V_istore_1 d_mo_isOwnHere_299 rfl ?_
      refine V_iload_1 d_mo_isOwnHere_300 ?_
      refine V_if_ne 315 d_mo_isOwnHere_301 (by decide) (by omega) (fun c301 => ?_) (fun c301 => by omega)
      refine V_iconst 1 d_mo_isOwnHere_315 ?_
      refine V_goto 320 d_mo_isOwnHere_316 (by decide) ?_
      exact K5 1 (Or.inl ⟨rfl, hx⟩) _
    · skip
      refine V_istore_1 d_mo_isOwnHere_299 rfl ?_
      refine V_iload_1 d_mo_isOwnHere_300 ?_
      refine V_if_ne 315 d_mo_isOwnHere_301 (by decide) (by omega) (fun c301 => by omega) (fun c301 => ?_)
      refine V_aload_0 d_mo_isOwnHere_304 ?_
      refine V_aload_0 d_mo_isOwnHere_305 ?_
      refine V_getR d_mo_isOwnHere_306 fl_mo_90 is_mo r_mo_maxWord ?_
      refine V_cvI1 d_mo_isOwnHere_309 ml_mo_208 mv_mo_isHere (by decide) (Nat.le_of_ble_eq_true rfl) is_mo (ok_isHereA hT hw 24 (by decide) rfl) ?_
      rintro x309 f2 ⟨hx309, e2⟩
      rw [e2]; clear e2 f2
      refine V_if_eq 319 d_mo_isOwnHere_312 (by decide) (by rcases hx309 with h | h <;> omega) (fun c312 => ?_) (fun c312 => ?_)
      · skip
        have hn24 := q_b0 hx309 (by omega)
        refine V_iconst 0 d_mo_isOwnHere_319 ?_
        exact K5 0 (Or.inr ⟨rfl, fun i i0 i1 => by
          by_cases h : i < 24
          · exact hx i i0 h
          · omega⟩) _
      · skip
        have hy := q_b1 hx309 (by omega)
        refine V_iconst 1 d_mo_isOwnHere_315 ?_
        refine V_goto 320 d_mo_isOwnHere_316 (by decide) ?_
        exact K5 1 (Or.inl ⟨rfl, by omega⟩) _
  have K3 : ∀ x : Int, (x = 1 ∧ ¬ wd T N p e = -1) ∨ (x = 0 ∧ ∀ i : Int, 0 ≤ i → i < 18 → ¬ wd T N p e = i) → ∀ u : Value, V D C m_mo_isOwnHere 223 [vr D 219, u] [vi x] (Zg g h) (q_up f 219 2 p) := by
    intro x hx u
    rcases hx with ⟨rfl, hx⟩ | ⟨rfl, hx⟩
    · skip
      refine V_istore_1 d_mo_isOwnHere_223 rfl ?_
      refine V_iload_1 d_mo_isOwnHere_224 ?_
      refine V_if_ne 294 d_mo_isOwnHere_225 (by decide) (by omega) (fun c225 => ?_) (fun c225 => by omega)
      refine V_iconst 1 d_mo_isOwnHere_294 ?_
      refine V_goto 299 d_mo_isOwnHere_295 (by decide) ?_
      exact K4 1 (Or.inl ⟨rfl, hx⟩) _
    · skip
      refine V_istore_1 d_mo_isOwnHere_223 rfl ?_
      refine V_iload_1 d_mo_isOwnHere_224 ?_
      refine V_if_ne 294 d_mo_isOwnHere_225 (by decide) (by omega) (fun c225 => by omega) (fun c225 => ?_)
      refine V_aload_0 d_mo_isOwnHere_228 ?_
      refine V_aload_0 d_mo_isOwnHere_229 ?_
      refine V_getR d_mo_isOwnHere_230 fl_mo_72 is_mo r_mo_notWord ?_
      refine V_cvI1 d_mo_isOwnHere_233 ml_mo_208 mv_mo_isHere (by decide) (Nat.le_of_ble_eq_true rfl) is_mo (ok_isHereA hT hw 18 (by decide) rfl) ?_
      rintro x233 f2 ⟨hx233, e2⟩
      rw [e2]; clear e2 f2
      refine V_if_ne 294 d_mo_isOwnHere_236 (by decide) (by rcases hx233 with h | h <;> omega) (fun c236 => ?_) (fun c236 => ?_)
      · skip
        have hy := q_b1 hx233 (by omega)
        refine V_iconst 1 d_mo_isOwnHere_294 ?_
        refine V_goto 299 d_mo_isOwnHere_295 (by decide) ?_
        exact K4 1 (Or.inl ⟨rfl, by omega⟩) _
      · skip
        have hn18 := q_b0 hx233 (by omega)
        refine V_aload_0 d_mo_isOwnHere_239 ?_
        refine V_aload_0 d_mo_isOwnHere_240 ?_
        refine V_getR d_mo_isOwnHere_241 fl_mo_75 is_mo r_mo_allWord ?_
        refine V_cvI1 d_mo_isOwnHere_244 ml_mo_208 mv_mo_isHere (by decide) (Nat.le_of_ble_eq_true rfl) is_mo (ok_isHereA hT hw 19 (by decide) rfl) ?_
        rintro x244 f2 ⟨hx244, e2⟩
        rw [e2]; clear e2 f2
        refine V_if_ne 294 d_mo_isOwnHere_247 (by decide) (by rcases hx244 with h | h <;> omega) (fun c247 => ?_) (fun c247 => ?_)
        · skip
          have hy := q_b1 hx244 (by omega)
          refine V_iconst 1 d_mo_isOwnHere_294 ?_
          refine V_goto 299 d_mo_isOwnHere_295 (by decide) ?_
          exact K4 1 (Or.inl ⟨rfl, by omega⟩) _
        · skip
          have hn19 := q_b0 hx244 (by omega)
          refine V_aload_0 d_mo_isOwnHere_250 ?_
          refine V_aload_0 d_mo_isOwnHere_251 ?_
          refine V_getR d_mo_isOwnHere_252 fl_mo_78 is_mo r_mo_wetWord ?_
          refine V_cvI1 d_mo_isOwnHere_255 ml_mo_208 mv_mo_isHere (by decide) (Nat.le_of_ble_eq_true rfl) is_mo (ok_isHereA hT hw 20 (by decide) rfl) ?_
          rintro x255 f2 ⟨hx255, e2⟩
          rw [e2]; clear e2 f2
          refine V_if_ne 294 d_mo_isOwnHere_258 (by decide) (by rcases hx255 with h | h <;> omega) (fun c258 => ?_) (fun c258 => ?_)
          · skip
            have hy := q_b1 hx255 (by omega)
            refine V_iconst 1 d_mo_isOwnHere_294 ?_
            refine V_goto 299 d_mo_isOwnHere_295 (by decide) ?_
            exact K4 1 (Or.inl ⟨rfl, by omega⟩) _
          · skip
            have hn20 := q_b0 hx255 (by omega)
            refine V_aload_0 d_mo_isOwnHere_261 ?_
            refine V_aload_0 d_mo_isOwnHere_262 ?_
            refine V_getR d_mo_isOwnHere_263 fl_mo_81 is_mo r_mo_unlikeWord ?_
            refine V_cvI1 d_mo_isOwnHere_266 ml_mo_208 mv_mo_isHere (by decide) (Nat.le_of_ble_eq_true rfl) is_mo (ok_isHereA hT hw 21 (by decide) rfl) ?_
            rintro x266 f2 ⟨hx266, e2⟩
            rw [e2]; clear e2 f2
            refine V_if_ne 294 d_mo_isOwnHere_269 (by decide) (by rcases hx266 with h | h <;> omega) (fun c269 => ?_) (fun c269 => ?_)
            · skip
              have hy := q_b1 hx266 (by omega)
              refine V_iconst 1 d_mo_isOwnHere_294 ?_
              refine V_goto 299 d_mo_isOwnHere_295 (by decide) ?_
              exact K4 1 (Or.inl ⟨rfl, by omega⟩) _
            · skip
              have hn21 := q_b0 hx266 (by omega)
              refine V_aload_0 d_mo_isOwnHere_272 ?_
              refine V_aload_0 d_mo_isOwnHere_273 ?_
              refine V_getR d_mo_isOwnHere_274 fl_mo_84 is_mo r_mo_passWord ?_
              refine V_cvI1 d_mo_isOwnHere_277 ml_mo_208 mv_mo_isHere (by decide) (Nat.le_of_ble_eq_true rfl) is_mo (ok_isHereA hT hw 22 (by decide) rfl) ?_
              rintro x277 f2 ⟨hx277, e2⟩
              rw [e2]; clear e2 f2
              refine V_if_ne 294 d_mo_isOwnHere_280 (by decide) (by rcases hx277 with h | h <;> omega) (fun c280 => ?_) (fun c280 => ?_)
              · skip
                have hy := q_b1 hx277 (by omega)
                refine V_iconst 1 d_mo_isOwnHere_294 ?_
                refine V_goto 299 d_mo_isOwnHere_295 (by decide) ?_
                exact K4 1 (Or.inl ⟨rfl, by omega⟩) _
              · skip
                have hn22 := q_b0 hx277 (by omega)
                refine V_aload_0 d_mo_isOwnHere_283 ?_
                refine V_aload_0 d_mo_isOwnHere_284 ?_
                refine V_getR d_mo_isOwnHere_285 fl_mo_87 is_mo r_mo_minWord ?_
                refine V_cvI1 d_mo_isOwnHere_288 ml_mo_208 mv_mo_isHere (by decide) (Nat.le_of_ble_eq_true rfl) is_mo (ok_isHereA hT hw 23 (by decide) rfl) ?_
                rintro x288 f2 ⟨hx288, e2⟩
                rw [e2]; clear e2 f2
                refine V_if_eq 298 d_mo_isOwnHere_291 (by decide) (by rcases hx288 with h | h <;> omega) (fun c291 => ?_) (fun c291 => ?_)
                · skip
                  have hn23 := q_b0 hx288 (by omega)
                  refine V_iconst 0 d_mo_isOwnHere_298 ?_
                  exact K4 0 (Or.inr ⟨rfl, fun i i0 i1 => by
                    by_cases h : i < 18
                    · exact hx i i0 h
                    · omega⟩) _
                · skip
                  have hy := q_b1 hx288 (by omega)
                  refine V_iconst 1 d_mo_isOwnHere_294 ?_
                  refine V_goto 299 d_mo_isOwnHere_295 (by decide) ?_
                  exact K4 1 (Or.inl ⟨rfl, by omega⟩) _
  have K2 : ∀ x : Int, (x = 1 ∧ ¬ wd T N p e = -1) ∨ (x = 0 ∧ ∀ i : Int, 0 ≤ i → i < 12 → ¬ wd T N p e = i) → ∀ u : Value, V D C m_mo_isOwnHere 147 [vr D 219, u] [vi x] (Zg g h) (q_up f 219 2 p) := by
    intro x hx u
    rcases hx with ⟨rfl, hx⟩ | ⟨rfl, hx⟩
    · skip
      refine V_istore_1 d_mo_isOwnHere_147 rfl ?_
      refine V_iload_1 d_mo_isOwnHere_148 ?_
      refine V_if_ne 218 d_mo_isOwnHere_149 (by decide) (by omega) (fun c149 => ?_) (fun c149 => by omega)
      refine V_iconst 1 d_mo_isOwnHere_218 ?_
      refine V_goto 223 d_mo_isOwnHere_219 (by decide) ?_
      exact K3 1 (Or.inl ⟨rfl, hx⟩) _
    · skip
      refine V_istore_1 d_mo_isOwnHere_147 rfl ?_
      refine V_iload_1 d_mo_isOwnHere_148 ?_
      refine V_if_ne 218 d_mo_isOwnHere_149 (by decide) (by omega) (fun c149 => by omega) (fun c149 => ?_)
      refine V_aload_0 d_mo_isOwnHere_152 ?_
      refine V_aload_0 d_mo_isOwnHere_153 ?_
      refine V_getR d_mo_isOwnHere_154 fl_mo_54 is_mo r_mo_dryWord ?_
      refine V_cvI1 d_mo_isOwnHere_157 ml_mo_208 mv_mo_isHere (by decide) (Nat.le_of_ble_eq_true rfl) is_mo (ok_isHereA hT hw 12 (by decide) rfl) ?_
      rintro x157 f2 ⟨hx157, e2⟩
      rw [e2]; clear e2 f2
      refine V_if_ne 218 d_mo_isOwnHere_160 (by decide) (by rcases hx157 with h | h <;> omega) (fun c160 => ?_) (fun c160 => ?_)
      · skip
        have hy := q_b1 hx157 (by omega)
        refine V_iconst 1 d_mo_isOwnHere_218 ?_
        refine V_goto 223 d_mo_isOwnHere_219 (by decide) ?_
        exact K3 1 (Or.inl ⟨rfl, by omega⟩) _
      · skip
        have hn12 := q_b0 hx157 (by omega)
        refine V_aload_0 d_mo_isOwnHere_163 ?_
        refine V_aload_0 d_mo_isOwnHere_164 ?_
        refine V_getR d_mo_isOwnHere_165 fl_mo_57 is_mo r_mo_priceWord ?_
        refine V_cvI1 d_mo_isOwnHere_168 ml_mo_208 mv_mo_isHere (by decide) (Nat.le_of_ble_eq_true rfl) is_mo (ok_isHereA hT hw 13 (by decide) rfl) ?_
        rintro x168 f2 ⟨hx168, e2⟩
        rw [e2]; clear e2 f2
        refine V_if_ne 218 d_mo_isOwnHere_171 (by decide) (by rcases hx168 with h | h <;> omega) (fun c171 => ?_) (fun c171 => ?_)
        · skip
          have hy := q_b1 hx168 (by omega)
          refine V_iconst 1 d_mo_isOwnHere_218 ?_
          refine V_goto 223 d_mo_isOwnHere_219 (by decide) ?_
          exact K3 1 (Or.inl ⟨rfl, by omega⟩) _
        · skip
          have hn13 := q_b0 hx168 (by omega)
          refine V_aload_0 d_mo_isOwnHere_174 ?_
          refine V_aload_0 d_mo_isOwnHere_175 ?_
          refine V_getR d_mo_isOwnHere_176 fl_mo_60 is_mo r_mo_whenWord ?_
          refine V_cvI1 d_mo_isOwnHere_179 ml_mo_208 mv_mo_isHere (by decide) (Nat.le_of_ble_eq_true rfl) is_mo (ok_isHereA hT hw 14 (by decide) rfl) ?_
          rintro x179 f2 ⟨hx179, e2⟩
          rw [e2]; clear e2 f2
          refine V_if_ne 218 d_mo_isOwnHere_182 (by decide) (by rcases hx179 with h | h <;> omega) (fun c182 => ?_) (fun c182 => ?_)
          · skip
            have hy := q_b1 hx179 (by omega)
            refine V_iconst 1 d_mo_isOwnHere_218 ?_
            refine V_goto 223 d_mo_isOwnHere_219 (by decide) ?_
            exact K3 1 (Or.inl ⟨rfl, by omega⟩) _
          · skip
            have hn14 := q_b0 hx179 (by omega)
            refine V_aload_0 d_mo_isOwnHere_185 ?_
            refine V_aload_0 d_mo_isOwnHere_186 ?_
            refine V_getR d_mo_isOwnHere_187 fl_mo_63 is_mo r_mo_titheWord ?_
            refine V_cvI1 d_mo_isOwnHere_190 ml_mo_208 mv_mo_isHere (by decide) (Nat.le_of_ble_eq_true rfl) is_mo (ok_isHereA hT hw 15 (by decide) rfl) ?_
            rintro x190 f2 ⟨hx190, e2⟩
            rw [e2]; clear e2 f2
            refine V_if_ne 218 d_mo_isOwnHere_193 (by decide) (by rcases hx190 with h | h <;> omega) (fun c193 => ?_) (fun c193 => ?_)
            · skip
              have hy := q_b1 hx190 (by omega)
              refine V_iconst 1 d_mo_isOwnHere_218 ?_
              refine V_goto 223 d_mo_isOwnHere_219 (by decide) ?_
              exact K3 1 (Or.inl ⟨rfl, by omega⟩) _
            · skip
              have hn15 := q_b0 hx190 (by omega)
              refine V_aload_0 d_mo_isOwnHere_196 ?_
              refine V_aload_0 d_mo_isOwnHere_197 ?_
              refine V_getR d_mo_isOwnHere_198 fl_mo_66 is_mo r_mo_orWord ?_
              refine V_cvI1 d_mo_isOwnHere_201 ml_mo_208 mv_mo_isHere (by decide) (Nat.le_of_ble_eq_true rfl) is_mo (ok_isHereA hT hw 16 (by decide) rfl) ?_
              rintro x201 f2 ⟨hx201, e2⟩
              rw [e2]; clear e2 f2
              refine V_if_ne 218 d_mo_isOwnHere_204 (by decide) (by rcases hx201 with h | h <;> omega) (fun c204 => ?_) (fun c204 => ?_)
              · skip
                have hy := q_b1 hx201 (by omega)
                refine V_iconst 1 d_mo_isOwnHere_218 ?_
                refine V_goto 223 d_mo_isOwnHere_219 (by decide) ?_
                exact K3 1 (Or.inl ⟨rfl, by omega⟩) _
              · skip
                have hn16 := q_b0 hx201 (by omega)
                refine V_aload_0 d_mo_isOwnHere_207 ?_
                refine V_aload_0 d_mo_isOwnHere_208 ?_
                refine V_getR d_mo_isOwnHere_209 fl_mo_69 is_mo r_mo_andWord ?_
                refine V_cvI1 d_mo_isOwnHere_212 ml_mo_208 mv_mo_isHere (by decide) (Nat.le_of_ble_eq_true rfl) is_mo (ok_isHereA hT hw 17 (by decide) rfl) ?_
                rintro x212 f2 ⟨hx212, e2⟩
                rw [e2]; clear e2 f2
                refine V_if_eq 222 d_mo_isOwnHere_215 (by decide) (by rcases hx212 with h | h <;> omega) (fun c215 => ?_) (fun c215 => ?_)
                · skip
                  have hn17 := q_b0 hx212 (by omega)
                  refine V_iconst 0 d_mo_isOwnHere_222 ?_
                  exact K3 0 (Or.inr ⟨rfl, fun i i0 i1 => by
                    by_cases h : i < 12
                    · exact hx i i0 h
                    · omega⟩) _
                · skip
                  have hy := q_b1 hx212 (by omega)
                  refine V_iconst 1 d_mo_isOwnHere_218 ?_
                  refine V_goto 223 d_mo_isOwnHere_219 (by decide) ?_
                  exact K3 1 (Or.inl ⟨rfl, by omega⟩) _
  have K1 : ∀ x : Int, (x = 1 ∧ ¬ wd T N p e = -1) ∨ (x = 0 ∧ ∀ i : Int, 0 ≤ i → i < 6 → ¬ wd T N p e = i) → ∀ u : Value, V D C m_mo_isOwnHere 71 [vr D 219, u] [vi x] (Zg g h) (q_up f 219 2 p) := by
    intro x hx u
    rcases hx with ⟨rfl, hx⟩ | ⟨rfl, hx⟩
    · skip
      refine V_istore_1 d_mo_isOwnHere_71 rfl ?_
      refine V_iload_1 d_mo_isOwnHere_72 ?_
      refine V_if_ne 142 d_mo_isOwnHere_73 (by decide) (by omega) (fun c73 => ?_) (fun c73 => by omega)
      refine V_iconst 1 d_mo_isOwnHere_142 ?_
      refine V_goto 147 d_mo_isOwnHere_143 (by decide) ?_
      exact K2 1 (Or.inl ⟨rfl, hx⟩) _
    · skip
      refine V_istore_1 d_mo_isOwnHere_71 rfl ?_
      refine V_iload_1 d_mo_isOwnHere_72 ?_
      refine V_if_ne 142 d_mo_isOwnHere_73 (by decide) (by omega) (fun c73 => by omega) (fun c73 => ?_)
      refine V_aload_0 d_mo_isOwnHere_76 ?_
      refine V_aload_0 d_mo_isOwnHere_77 ?_
      refine V_getR d_mo_isOwnHere_78 fl_mo_36 is_mo r_mo_roadWord ?_
      refine V_cvI1 d_mo_isOwnHere_81 ml_mo_208 mv_mo_isHere (by decide) (Nat.le_of_ble_eq_true rfl) is_mo (ok_isHereA hT hw 6 (by decide) rfl) ?_
      rintro x81 f2 ⟨hx81, e2⟩
      rw [e2]; clear e2 f2
      refine V_if_ne 142 d_mo_isOwnHere_84 (by decide) (by rcases hx81 with h | h <;> omega) (fun c84 => ?_) (fun c84 => ?_)
      · skip
        have hy := q_b1 hx81 (by omega)
        refine V_iconst 1 d_mo_isOwnHere_142 ?_
        refine V_goto 147 d_mo_isOwnHere_143 (by decide) ?_
        exact K2 1 (Or.inl ⟨rfl, by omega⟩) _
      · skip
        have hn6 := q_b0 hx81 (by omega)
        refine V_aload_0 d_mo_isOwnHere_87 ?_
        refine V_aload_0 d_mo_isOwnHere_88 ?_
        refine V_getR d_mo_isOwnHere_89 fl_mo_39 is_mo r_mo_seenWord ?_
        refine V_cvI1 d_mo_isOwnHere_92 ml_mo_208 mv_mo_isHere (by decide) (Nat.le_of_ble_eq_true rfl) is_mo (ok_isHereA hT hw 7 (by decide) rfl) ?_
        rintro x92 f2 ⟨hx92, e2⟩
        rw [e2]; clear e2 f2
        refine V_if_ne 142 d_mo_isOwnHere_95 (by decide) (by rcases hx92 with h | h <;> omega) (fun c95 => ?_) (fun c95 => ?_)
        · skip
          have hy := q_b1 hx92 (by omega)
          refine V_iconst 1 d_mo_isOwnHere_142 ?_
          refine V_goto 147 d_mo_isOwnHere_143 (by decide) ?_
          exact K2 1 (Or.inl ⟨rfl, by omega⟩) _
        · skip
          have hn7 := q_b0 hx92 (by omega)
          refine V_aload_0 d_mo_isOwnHere_98 ?_
          refine V_aload_0 d_mo_isOwnHere_99 ?_
          refine V_getR d_mo_isOwnHere_100 fl_mo_42 is_mo r_mo_atWord ?_
          refine V_cvI1 d_mo_isOwnHere_103 ml_mo_208 mv_mo_isHere (by decide) (Nat.le_of_ble_eq_true rfl) is_mo (ok_isHereA hT hw 8 (by decide) rfl) ?_
          rintro x103 f2 ⟨hx103, e2⟩
          rw [e2]; clear e2 f2
          refine V_if_ne 142 d_mo_isOwnHere_106 (by decide) (by rcases hx103 with h | h <;> omega) (fun c106 => ?_) (fun c106 => ?_)
          · skip
            have hy := q_b1 hx103 (by omega)
            refine V_iconst 1 d_mo_isOwnHere_142 ?_
            refine V_goto 147 d_mo_isOwnHere_143 (by decide) ?_
            exact K2 1 (Or.inl ⟨rfl, by omega⟩) _
          · skip
            have hn8 := q_b0 hx103 (by omega)
            refine V_aload_0 d_mo_isOwnHere_109 ?_
            refine V_aload_0 d_mo_isOwnHere_110 ?_
            refine V_getR d_mo_isOwnHere_111 fl_mo_45 is_mo r_mo_hourWord ?_
            refine V_cvI1 d_mo_isOwnHere_114 ml_mo_208 mv_mo_isHere (by decide) (Nat.le_of_ble_eq_true rfl) is_mo (ok_isHereA hT hw 9 (by decide) rfl) ?_
            rintro x114 f2 ⟨hx114, e2⟩
            rw [e2]; clear e2 f2
            refine V_if_ne 142 d_mo_isOwnHere_117 (by decide) (by rcases hx114 with h | h <;> omega) (fun c117 => ?_) (fun c117 => ?_)
            · skip
              have hy := q_b1 hx114 (by omega)
              refine V_iconst 1 d_mo_isOwnHere_142 ?_
              refine V_goto 147 d_mo_isOwnHere_143 (by decide) ?_
              exact K2 1 (Or.inl ⟨rfl, by omega⟩) _
            · skip
              have hn9 := q_b0 hx114 (by omega)
              refine V_aload_0 d_mo_isOwnHere_120 ?_
              refine V_aload_0 d_mo_isOwnHere_121 ?_
              refine V_getR d_mo_isOwnHere_122 fl_mo_48 is_mo r_mo_lightWord ?_
              refine V_cvI1 d_mo_isOwnHere_125 ml_mo_208 mv_mo_isHere (by decide) (Nat.le_of_ble_eq_true rfl) is_mo (ok_isHereA hT hw 10 (by decide) rfl) ?_
              rintro x125 f2 ⟨hx125, e2⟩
              rw [e2]; clear e2 f2
              refine V_if_ne 142 d_mo_isOwnHere_128 (by decide) (by rcases hx125 with h | h <;> omega) (fun c128 => ?_) (fun c128 => ?_)
              · skip
                have hy := q_b1 hx125 (by omega)
                refine V_iconst 1 d_mo_isOwnHere_142 ?_
                refine V_goto 147 d_mo_isOwnHere_143 (by decide) ?_
                exact K2 1 (Or.inl ⟨rfl, by omega⟩) _
              · skip
                have hn10 := q_b0 hx125 (by omega)
                refine V_aload_0 d_mo_isOwnHere_131 ?_
                refine V_aload_0 d_mo_isOwnHere_132 ?_
                refine V_getR d_mo_isOwnHere_133 fl_mo_51 is_mo r_mo_rainWord ?_
                refine V_cvI1 d_mo_isOwnHere_136 ml_mo_208 mv_mo_isHere (by decide) (Nat.le_of_ble_eq_true rfl) is_mo (ok_isHereA hT hw 11 (by decide) rfl) ?_
                rintro x136 f2 ⟨hx136, e2⟩
                rw [e2]; clear e2 f2
                refine V_if_eq 146 d_mo_isOwnHere_139 (by decide) (by rcases hx136 with h | h <;> omega) (fun c139 => ?_) (fun c139 => ?_)
                · skip
                  have hn11 := q_b0 hx136 (by omega)
                  refine V_iconst 0 d_mo_isOwnHere_146 ?_
                  exact K2 0 (Or.inr ⟨rfl, fun i i0 i1 => by
                    by_cases h : i < 6
                    · exact hx i i0 h
                    · omega⟩) _
                · skip
                  have hy := q_b1 hx136 (by omega)
                  refine V_iconst 1 d_mo_isOwnHere_142 ?_
                  refine V_goto 147 d_mo_isOwnHere_143 (by decide) ?_
                  exact K2 1 (Or.inl ⟨rfl, by omega⟩) _
  have hx : ∀ i : Int, 0 ≤ i → i < 0 → ¬ wd T N p e = i := fun i a b => by omega
  refine V_aload_0 d_mo_isOwnHere_0 ?_
  refine V_aload_0 d_mo_isOwnHere_1 ?_
  refine V_getR d_mo_isOwnHere_2 fl_mo_17 is_mo r_mo_traitsWord ?_
  refine V_cvI1 d_mo_isOwnHere_5 ml_mo_208 mv_mo_isHere (by decide) (Nat.le_of_ble_eq_true rfl) is_mo (ok_isHereA hT hw 0 (by decide) rfl) ?_
  rintro x5 f2 ⟨hx5, e2⟩
  rw [e2]; clear e2 f2
  refine V_if_ne 66 d_mo_isOwnHere_8 (by decide) (by rcases hx5 with h | h <;> omega) (fun c8 => ?_) (fun c8 => ?_)
  · skip
    have hy := q_b1 hx5 (by omega)
    refine V_iconst 1 d_mo_isOwnHere_66 ?_
    refine V_goto 71 d_mo_isOwnHere_67 (by decide) ?_
    exact K1 1 (Or.inl ⟨rfl, by omega⟩) _
  · skip
    have hn0 := q_b0 hx5 (by omega)
    refine V_aload_0 d_mo_isOwnHere_11 ?_
    refine V_aload_0 d_mo_isOwnHere_12 ?_
    refine V_getR d_mo_isOwnHere_13 fl_mo_21 is_mo r_mo_personWord ?_
    refine V_cvI1 d_mo_isOwnHere_16 ml_mo_208 mv_mo_isHere (by decide) (Nat.le_of_ble_eq_true rfl) is_mo (ok_isHereA hT hw 1 (by decide) rfl) ?_
    rintro x16 f2 ⟨hx16, e2⟩
    rw [e2]; clear e2 f2
    refine V_if_ne 66 d_mo_isOwnHere_19 (by decide) (by rcases hx16 with h | h <;> omega) (fun c19 => ?_) (fun c19 => ?_)
    · skip
      have hy := q_b1 hx16 (by omega)
      refine V_iconst 1 d_mo_isOwnHere_66 ?_
      refine V_goto 71 d_mo_isOwnHere_67 (by decide) ?_
      exact K1 1 (Or.inl ⟨rfl, by omega⟩) _
    · skip
      have hn1 := q_b0 hx16 (by omega)
      refine V_aload_0 d_mo_isOwnHere_22 ?_
      refine V_aload_0 d_mo_isOwnHere_23 ?_
      refine V_getR d_mo_isOwnHere_24 fl_mo_24 is_mo r_mo_shadeWord ?_
      refine V_cvI1 d_mo_isOwnHere_27 ml_mo_208 mv_mo_isHere (by decide) (Nat.le_of_ble_eq_true rfl) is_mo (ok_isHereA hT hw 2 (by decide) rfl) ?_
      rintro x27 f2 ⟨hx27, e2⟩
      rw [e2]; clear e2 f2
      refine V_if_ne 66 d_mo_isOwnHere_30 (by decide) (by rcases hx27 with h | h <;> omega) (fun c30 => ?_) (fun c30 => ?_)
      · skip
        have hy := q_b1 hx27 (by omega)
        refine V_iconst 1 d_mo_isOwnHere_66 ?_
        refine V_goto 71 d_mo_isOwnHere_67 (by decide) ?_
        exact K1 1 (Or.inl ⟨rfl, by omega⟩) _
      · skip
        have hn2 := q_b0 hx27 (by omega)
        refine V_aload_0 d_mo_isOwnHere_33 ?_
        refine V_aload_0 d_mo_isOwnHere_34 ?_
        refine V_getR d_mo_isOwnHere_35 fl_mo_27 is_mo r_mo_feeWord ?_
        refine V_cvI1 d_mo_isOwnHere_38 ml_mo_208 mv_mo_isHere (by decide) (Nat.le_of_ble_eq_true rfl) is_mo (ok_isHereA hT hw 3 (by decide) rfl) ?_
        rintro x38 f2 ⟨hx38, e2⟩
        rw [e2]; clear e2 f2
        refine V_if_ne 66 d_mo_isOwnHere_41 (by decide) (by rcases hx38 with h | h <;> omega) (fun c41 => ?_) (fun c41 => ?_)
        · skip
          have hy := q_b1 hx38 (by omega)
          refine V_iconst 1 d_mo_isOwnHere_66 ?_
          refine V_goto 71 d_mo_isOwnHere_67 (by decide) ?_
          exact K1 1 (Or.inl ⟨rfl, by omega⟩) _
        · skip
          have hn3 := q_b0 hx38 (by omega)
          refine V_aload_0 d_mo_isOwnHere_44 ?_
          refine V_aload_0 d_mo_isOwnHere_45 ?_
          refine V_getR d_mo_isOwnHere_46 fl_mo_30 is_mo r_mo_fakesWord ?_
          refine V_cvI1 d_mo_isOwnHere_49 ml_mo_208 mv_mo_isHere (by decide) (Nat.le_of_ble_eq_true rfl) is_mo (ok_isHereA hT hw 4 (by decide) rfl) ?_
          rintro x49 f2 ⟨hx49, e2⟩
          rw [e2]; clear e2 f2
          refine V_if_ne 66 d_mo_isOwnHere_52 (by decide) (by rcases hx49 with h | h <;> omega) (fun c52 => ?_) (fun c52 => ?_)
          · skip
            have hy := q_b1 hx49 (by omega)
            refine V_iconst 1 d_mo_isOwnHere_66 ?_
            refine V_goto 71 d_mo_isOwnHere_67 (by decide) ?_
            exact K1 1 (Or.inl ⟨rfl, by omega⟩) _
          · skip
            have hn4 := q_b0 hx49 (by omega)
            refine V_aload_0 d_mo_isOwnHere_55 ?_
            refine V_aload_0 d_mo_isOwnHere_56 ?_
            refine V_getR d_mo_isOwnHere_57 fl_mo_33 is_mo r_mo_placeWord ?_
            refine V_cvI1 d_mo_isOwnHere_60 ml_mo_208 mv_mo_isHere (by decide) (Nat.le_of_ble_eq_true rfl) is_mo (ok_isHereA hT hw 5 (by decide) rfl) ?_
            rintro x60 f2 ⟨hx60, e2⟩
            rw [e2]; clear e2 f2
            refine V_if_eq 70 d_mo_isOwnHere_63 (by decide) (by rcases hx60 with h | h <;> omega) (fun c63 => ?_) (fun c63 => ?_)
            · skip
              have hn5 := q_b0 hx60 (by omega)
              refine V_iconst 0 d_mo_isOwnHere_70 ?_
              exact K1 0 (Or.inr ⟨rfl, fun i i0 i1 => by
                by_cases h : i < 0
                · exact hx i i0 h
                · omega⟩) _
            · skip
              have hy := q_b1 hx60 (by omega)
              refine V_iconst 1 d_mo_isOwnHere_66 ?_
              refine V_goto 71 d_mo_isOwnHere_67 (by decide) ?_
              exact K1 1 (Or.inl ⟨rfl, by omega⟩) _
theorem lk_isL {p : Int} (h : isL (lk T N p) = true) : p < N ∧ isL (T p) = true := by
  unfold lk at h
  split at h
  · next h1 => exact ⟨h1, h⟩
  · exact absurd h (by decide)
theorem lk_isG {p : Int} (h : isG (lk T N p) = true) : p < N ∧ isG (T p) = true := by
  unfold lk at h
  split at h
  · next h1 => exact ⟨h1, h⟩
  · exact absurd h (by decide)
/-- where a name or a number leaves the text -/
def pst {α : Type} (r : q_R (α × Int × Int)) : q_R (Int × Int) := match r with
  | .inl e => .inl e
  | .inr s => .inr s.2
theorem ok_number {s : q_R (Int × Int)} (hT : mpS f T N s) {lo hi : Int} (hl : -2147483648 ≤ lo ∧ lo < 2147483648) (hh : -2147483648 ≤ hi ∧ hi < 2147483648) : OkI D m_mo_number [vr D 219, vi lo, vi hi] (Zg g h) f (fun x f' => mpS f' T N (pst (rb s (fun s => l_num T N lo hi s.1 s.2))) ∧ mK f f' ∧ (0 ≤ x ∧ x ≤ 9999) ∧ ∀ v q d, rb s (fun s => l_num T N lo hi s.1 s.2) = .inr (v, q, d) → x = v) := by
  refine OkI_of (L0 := [vr D 219, vi lo, vi hi, vu, vu]) mi_mo_number rfl rfl (Nat.le_of_ble_eq_true rfl) (fun C hR => ?_)
  cases s with
  | inl e =>
    have hb := hT.2.2.2
    refine V_aload_0 d_mo_number_0 ?_
    refine V_getI d_mo_number_1 fl_mo_185 is_mo ?_
    rw [hb.1]
    refine V_if_eq 9 d_mo_number_4 (by decide) (by omega) (fun c4 => by omega) (fun c4 => ?_)
    refine V_iconst 0 d_mo_number_7 ?_
    refine V_ireturn d_mo_number_8 (hR _ _ ?_)
    exact ⟨hT, mK.refl f, by decide, fun v q d h => by cases h⟩
  | inr s =>
    obtain ⟨p, e⟩ := s
    have hp := hT.pr
    have hlk := lk_rg hT.1 hp.1
    have hT0 := hT.pl
    have hde := de_rg (T := T) hp.2.1
    have hT' := hT
    obtain ⟨⟨hN, hB⟩, h1, h2, h3a, h3b, h3, h4, h5, h6⟩ := hT'
    have rs : rb (.inr (p, e)) (fun s => l_num T N lo hi s.1 s.2) = l_num T N lo hi p e := rfl
    rw [rs] at hR
    have loop : ∀ (m : Nat) (k : Nat) (F : q_F), isG (lk T N p) = true → ¬ p = e → p + k + m = de T N p → k ≤ 4 → mK f F → F 219 2 = p + k → F 219 5 = 0 → F 219 6 = -1 → F 219 4 = e → V D C m_mo_number 49 [vr D 219, vi lo, vi hi, vi p, vi (numN T k p 0)] [] (Zg g h) F := by
      intro m
      induction m with
      | zero =>
        intro k F hg he hm hk4 hf f2 f5 f6 f4
        have hnr := numN_rg (T := T) k p 0 (fun j a b => hde.2.2.1 j a (by omega)) (by omega)
        have p10 : (10 : Int) ^ k ≤ 10000 := by
          have : ∀ k : Nat, k < 5 → (10 : Int) ^ k ≤ 10000 := by decide +kernel
          exact this k (by omega)
        have ek : (de T N p - p).toNat = k := by omega
        have ez : de T N p = p + k := by omega
        have eL : l_num T N lo hi p e = (if lo ≤ numN T k p 0 ∧ numN T k p 0 ≤ hi then .inr (numN T k p 0, sk T N (p + k), p + k) else .inl (2, p)) := by
          unfold l_num; rw [if_pos ⟨hg, he⟩, if_pos (by omega), ek, ez]
        have hk2 : mK f (q_up F 219 4 (p + k)) := hf.up (by decide)
        have hs2 : mpS (q_up F 219 4 (p + k)) T N (.inr (sk T N (p + k), p + k)) := hT.to hk2 (by rw [q_up_ne (Or.inr (by decide))]; exact f5) (by rw [q_up_ne (Or.inr (by decide))]; exact f6) (by rw [q_up_ne (Or.inr (by decide)), f2]; omega) (by rw [q_up_ne (Or.inr (by decide)), f2]) (q_up_eq _ _ _ _) (by show -1 ≤ p + (k : Int) ∧ p + (k : Int) ≤ N; omega)
        have K : V D C m_mo_number 129 [vr D 219, vi lo, vi hi, vi p, vi (numN T k p 0)] [] (Zg g h) F := by
          refine V_aload_0 d_mo_number_129 ?_
          refine V_aload_0 d_mo_number_130 ?_
          refine V_getI d_mo_number_131 fl_mo_191 is_mo ?_
          rw [f2]
          refine V_putI d_mo_number_134 fl_mo_205 is_mo ?_
          refine V_iload_4 d_mo_number_137 ?_
          refine V_i2l d_mo_number_139 (by omega) ?_
          refine V_iload_1 d_mo_number_140 ?_
          refine V_i2l d_mo_number_141 (by omega) ?_
          refine V_iload_2 d_mo_number_142 ?_
          refine V_i2l d_mo_number_143 (by omega) ?_
          refine V_csI3 d_mo_number_144 ml_mo_225 ms_mo_isIn (by decide) (Nat.le_of_ble_eq_true rfl) (ok_isIn (by omega) (by omega) (by omega)) ?_
          rintro x144 f2 ⟨hx144, e2⟩
          rw [e2]; clear e2 f2
          refine V_if_ne 156 d_mo_number_147 (by decide) (by rcases hx144 with h | h <;> omega) (fun c147 => ?_) (fun c147 => ?_)
          · skip
            refine V_iload_4 d_mo_number_156 ?_
            refine V_ireturn d_mo_number_158 (hR _ _ ?_)
            rw [eL, if_pos (q_b1 hx144 (by omega))]
            exact ⟨hs2, hk2, by omega, fun v q d h => by cases h; rfl⟩
          · skip
            refine V_aload_0 d_mo_number_150 ?_
            refine V_iconst 2 d_mo_number_151 ?_
            refine V_iload_3 d_mo_number_152 ?_
            refine V_cvV2 d_mo_number_153 ml_mo_215 mv_mo_fail (by decide) (Nat.le_of_ble_eq_true rfl) is_mo (ok_mfail hs2 (by decide)) ?_
            rintro F2 ⟨hs3, hk3⟩
            refine V_iload_4 d_mo_number_156 ?_
            refine V_ireturn d_mo_number_158 (hR _ _ ?_)
            rw [eL, if_neg (q_b0 hx144 (by omega))]
            exact ⟨hs3, hk2.tr hk3, by omega, fun v q d h => by cases h⟩
        by_cases eN : p + k = N
        · skip
          refine V_aload_0 d_mo_number_49 ?_
          refine V_getI d_mo_number_50 fl_mo_191 is_mo ?_
          rw [f2]
          refine V_aload_0 d_mo_number_53 ?_
          refine V_getI d_mo_number_54 fl_mo_194 is_mo ?_
          rw [hf _ _ (by omega), h1]
          refine V_icmp_ge 129 d_mo_number_57 (by decide) (by omega) (by omega) (fun c57 => ?_) (fun c57 => by omega)
          exact K
        · have eb : F 220 (p + k) = T (p + k) := by rw [hf _ _ (by omega)]; exact h2 _ (by omega) (by omega)
          have bx := hB (p + k) (by omega) (by omega)
          have hno := hde.2.2.2 (by omega)
          rw [ez] at hno
          refine V_aload_0 d_mo_number_49 ?_
          refine V_getI d_mo_number_50 fl_mo_191 is_mo ?_
          rw [f2]
          refine V_aload_0 d_mo_number_53 ?_
          refine V_getI d_mo_number_54 fl_mo_194 is_mo ?_
          rw [hf _ _ (by omega), h1]
          refine V_icmp_ge 129 d_mo_number_57 (by decide) (by omega) (by omega) (fun c57 => by omega) (fun c57 => ?_)
          refine V_aload_0 d_mo_number_60 ?_
          refine V_getR d_mo_number_61 fl_mo_7 is_mo r_mo_tape ?_
          refine V_aload_0 d_mo_number_64 ?_
          refine V_getI d_mo_number_65 fl_mo_191 is_mo ?_
          rw [f2]
          refine V_iald d_mo_number_68 is_mo_tape (by omega) (by omega) ?_
          rw [eb]
          refine V_csI1 d_mo_number_69 ml_mo_222 ms_mo_isDigit (by decide) (Nat.le_of_ble_eq_true rfl) (ok_mdigit (by omega)) ?_
          rintro x69 f2 ⟨hx69, e2⟩
          rw [e2]; clear e2 f2
          refine V_if_eq 129 d_mo_number_72 (by decide) (by rcases hx69 with h | h <;> omega) (fun c72 => ?_) (fun c72 => ?_)
          · skip
            exact K
          · skip
            have := q_b1 hx69 (by omega)
            rw [hno] at this; cases this
      | succ m ih =>
        intro k F hg he hm hk4 hf f2 f5 f6 f4
        have eb : F 220 (p + k) = T (p + k) := by rw [hf _ _ (by omega)]; exact h2 _ (by omega) (by omega)
        have bx := hB (p + k) (by omega) (by omega)
        have hyes := hde.2.2.1 (p + k) (by omega) (by omega)
        have hnr := numN_rg (T := T) k p 0 (fun j a b => hde.2.2.1 j a (by omega)) (by omega)
        have p10 : (10 : Int) ^ k ≤ 10000 := by
          have : ∀ k : Nat, k < 5 → (10 : Int) ^ k ≤ 10000 := by decide +kernel
          exact this k (by omega)
        have hs2 : mpS F T N (.inr (sk T N (p + k), e)) := hT.to hf f5 f6 (by rw [f2]; omega) (by rw [f2]) f4 (by omega)
        refine V_aload_0 d_mo_number_49 ?_
        refine V_getI d_mo_number_50 fl_mo_191 is_mo ?_
        rw [f2]
        refine V_aload_0 d_mo_number_53 ?_
        refine V_getI d_mo_number_54 fl_mo_194 is_mo ?_
        rw [hf _ _ (by omega), h1]
        refine V_icmp_ge 129 d_mo_number_57 (by decide) (by omega) (by omega) (fun c57 => by omega) (fun c57 => ?_)
        refine V_aload_0 d_mo_number_60 ?_
        refine V_getR d_mo_number_61 fl_mo_7 is_mo r_mo_tape ?_
        refine V_aload_0 d_mo_number_64 ?_
        refine V_getI d_mo_number_65 fl_mo_191 is_mo ?_
        rw [f2]
        refine V_iald d_mo_number_68 is_mo_tape (by omega) (by omega) ?_
        rw [eb]
        refine V_csI1 d_mo_number_69 ml_mo_222 ms_mo_isDigit (by decide) (Nat.le_of_ble_eq_true rfl) (ok_mdigit (by omega)) ?_
        rintro x69 f2 ⟨hx69, e2⟩
        rw [e2]; clear e2 f2
        refine V_if_eq 129 d_mo_number_72 (by decide) (by rcases hx69 with h | h <;> omega) (fun c72 => ?_) (fun c72 => ?_)
        · skip
          exact absurd hyes (q_b0 hx69 (by omega))
        · skip
          refine V_aload_0 d_mo_number_75 ?_
          refine V_getI d_mo_number_76 fl_mo_191 is_mo ?_
          rw [f2]
          refine V_iload_3 d_mo_number_79 ?_
          refine V_isub d_mo_number_80 ?_
          refine V_iconst 4 d_mo_number_81 ?_
          refine V_icmp_ne 96 d_mo_number_82 (by decide) (by omega) (by omega) (fun c82 => ?_) (fun c82 => ?_)
          · skip
            refine V_bipush 10 d_mo_number_96 (by decide) ?_
            refine V_iload_4 d_mo_number_98 ?_
            refine V_imul d_mo_number_100 ?_
            refine V_aload_0 d_mo_number_101 ?_
            refine V_getR d_mo_number_102 fl_mo_7 is_mo r_mo_tape ?_
            refine V_aload_0 d_mo_number_105 ?_
            refine V_getI d_mo_number_106 fl_mo_191 is_mo ?_
            rw [f2]
            refine V_iald d_mo_number_109 is_mo_tape (by omega) (by omega) ?_
            rw [eb]
            refine V_iadd d_mo_number_110 ?_
            refine V_bipush 48 d_mo_number_111 (by decide) ?_
            refine V_isub d_mo_number_113 ?_
            refine V_istore_4 d_mo_number_114 rfl ?_
            refine V_aload_0 d_mo_number_116 ?_
            refine V_dup d_mo_number_117 rfl ?_
            refine V_getI d_mo_number_118 fl_mo_191 is_mo ?_
            rw [f2]
            refine V_iconst 1 d_mo_number_121 ?_
            refine V_iadd d_mo_number_122 ?_
            refine V_putI d_mo_number_123 fl_mo_191 is_mo ?_
            refine V_goto 49 d_mo_number_126 (by decide) ?_
            have := ih (k + 1) (q_up F 219 2 (p + k + 1)) hg he (by omega) (by omega) (hf.up (by decide)) (by rw [q_up_eq]; push_cast; omega) (by rw [q_up_ne (Or.inr (by decide))]; exact f5) (by rw [q_up_ne (Or.inr (by decide))]; exact f6) (by rw [q_up_ne (Or.inr (by decide))]; exact f4)
            rw [numN_end] at this
            exact this
          · skip
            refine V_aload_0 d_mo_number_85 ?_
            refine V_iconst 1 d_mo_number_86 ?_
            refine V_aload_0 d_mo_number_87 ?_
            refine V_getI d_mo_number_88 fl_mo_191 is_mo ?_
            rw [f2]
            refine V_cvV2 d_mo_number_91 ml_mo_215 mv_mo_fail (by decide) (Nat.le_of_ble_eq_true rfl) is_mo (ok_mfail hs2 (by decide)) ?_
            rintro F2 ⟨hs3, hk3⟩
            refine V_iconst 0 d_mo_number_94 ?_
            refine V_ireturn d_mo_number_95 (hR _ _ ?_)
            have eL : l_num T N lo hi p e = .inl (1, p + 4) := by
              unfold l_num; rw [if_pos ⟨hg, he⟩, if_neg (by omega)]
            rw [eL]
            refine ⟨?_, hf.tr hk3, by decide, fun v q d h => by cases h⟩
            have : p + (k : Int) = p + 4 := by omega
            rw [this] at hs3
            exact hs3
    refine V_aload_0 d_mo_number_0 ?_
    refine V_getI d_mo_number_1 fl_mo_185 is_mo ?_
    rw [h3a]
    refine V_if_eq 9 d_mo_number_4 (by decide) (by omega) (fun c4 => ?_) (fun c4 => by omega)
    refine V_aload_0 d_mo_number_9 ?_
    refine V_cvI0 d_mo_number_10 ml_mo_197 mv_mo_look (by decide) (Nat.le_of_ble_eq_true rfl) is_mo (ok_look hT) ?_
    rintro _ f2 ⟨rfl, e2⟩
    rw [e2]; clear e2 f2
    refine V_csI1 d_mo_number_13 ml_mo_222 ms_mo_isDigit (by decide) (Nat.le_of_ble_eq_true rfl) (ok_mdigit (by omega)) ?_
    rintro x13 f2 ⟨hx13, e2⟩
    rw [e2]; clear e2 f2
    refine V_if_eq 30 d_mo_number_16 (by decide) (by rcases hx13 with h | h <;> omega) (fun c16 => ?_) (fun c16 => ?_)
    · skip
      refine V_aload_0 d_mo_number_30 ?_
      refine V_iconst 1 d_mo_number_31 ?_
      refine V_aload_0 d_mo_number_32 ?_
      refine V_getI d_mo_number_33 fl_mo_191 is_mo ?_
      rw [q_up_eq]
      refine V_cvV2 d_mo_number_36 ml_mo_215 mv_mo_fail (by decide) (Nat.le_of_ble_eq_true rfl) is_mo (ok_mfail hT0 (by decide)) ?_
      rintro F2 ⟨hs3, hk3⟩
      refine V_iconst 0 d_mo_number_39 ?_
      refine V_ireturn d_mo_number_40 (hR _ _ ?_)
      have eL : l_num T N lo hi p e = .inl (1, p) := by unfold l_num; rw [if_neg (fun e => q_b0 hx13 (by omega) e.1)]
      rw [eL]
      exact ⟨hs3, ((mK.refl f).up (by decide)).tr hk3, by decide, fun v q d h => by cases h⟩
    · skip
      refine V_aload_0 d_mo_number_19 ?_
      refine V_getI d_mo_number_20 fl_mo_191 is_mo ?_
      rw [q_up_eq]
      refine V_aload_0 d_mo_number_23 ?_
      refine V_getI d_mo_number_24 fl_mo_205 is_mo ?_
      rw [q_up_ne (Or.inr (by decide)), h5]
      refine V_icmp_ne 41 d_mo_number_27 (by decide) (by omega) (by omega) (fun c27 => ?_) (fun c27 => ?_)
      · skip
        refine V_aload_0 d_mo_number_41 ?_
        refine V_getI d_mo_number_42 fl_mo_191 is_mo ?_
        rw [q_up_eq]
        refine V_istore_3 d_mo_number_45 rfl ?_
        refine V_iconst 0 d_mo_number_46 ?_
        refine V_istore_4 d_mo_number_47 rfl ?_
        exact loop (de T N p - p).toNat 0 _ (q_b1 hx13 (by omega)) c27 (by omega) (by omega) ((mK.refl f).up (by decide)) (by rw [q_up_eq]; omega) (by rw [q_up_ne (Or.inr (by decide))]; exact h3a) (by rw [q_up_ne (Or.inr (by decide))]; exact h3b) (by rw [q_up_ne (Or.inr (by decide))]; exact h5)
      · skip
        refine V_aload_0 d_mo_number_30 ?_
        refine V_iconst 1 d_mo_number_31 ?_
        refine V_aload_0 d_mo_number_32 ?_
        refine V_getI d_mo_number_33 fl_mo_191 is_mo ?_
        rw [q_up_eq]
        refine V_cvV2 d_mo_number_36 ml_mo_215 mv_mo_fail (by decide) (Nat.le_of_ble_eq_true rfl) is_mo (ok_mfail hT0 (by decide)) ?_
        rintro F2 ⟨hs3, hk3⟩
        refine V_iconst 0 d_mo_number_39 ?_
        refine V_ireturn d_mo_number_40 (hR _ _ ?_)
        have eL : l_num T N lo hi p e = .inl (1, p) := by unfold l_num; rw [if_neg (fun e => e.2 (by omega))]
        rw [eL]
        exact ⟨hs3, ((mK.refl f).up (by decide)).tr hk3, by decide, fun v q d h => by cases h⟩
theorem p27 : ∀ m : Nat, m < 7 → (27 : Int) ^ m ≤ 387420489 := by decide +kernel
theorem pk27_rg {l : List Int} (hl : ∀ c ∈ l, isL c = true) (h6 : l.length ≤ 6) : 0 ≤ pk27 l ∧ pk27 l < 387420489 := by
  have := pr27_pos l.reverse (fun c hc => hl c (List.mem_reverse.mp hc))
  rw [List.length_reverse] at this
  have h2 := p27 l.length (by omega)
  unfold pk27; omega
theorem ok_name {s : q_R (Int × Int)} (hT : mpS f T N s) (hw : mW f) : OkL D m_mo_name [vr D 219] (Zg g h) f (fun x f' => mpS f' T N (pst (rb s (fun s => l_name T N s.1 s.2))) ∧ mK f f' ∧ (0 ≤ x ∧ x < 387420489) ∧ ∀ l q d, rb s (fun s => l_name T N s.1 s.2) = .inr (l, q, d) → x = pk27 l ∧ ∀ p e, s = .inr (p, e) → f' 219 34 = p) := by
  refine OkL_of (L0 := [vr D 219, vu, vu]) mi_mo_name rfl rfl (Nat.le_of_ble_eq_true rfl) (fun C hR => ?_)
  cases s with
  | inl e =>
    have hb := hT.2.2.2
    refine V_aload_0 d_mo_name_0 ?_
    refine V_getI d_mo_name_1 fl_mo_185 is_mo ?_
    rw [hb.1]
    refine V_if_eq 9 d_mo_name_4 (by decide) (by omega) (fun c4 => by omega) (fun c4 => ?_)
    refine V_lconst0 d_mo_name_7 ?_
    refine V_lreturn d_mo_name_8 (hR _ _ ?_)
    exact ⟨hT, mK.refl f, by decide, fun v q d h => by cases h⟩
  | inr s =>
    obtain ⟨p, e⟩ := s
    have hp := hT.pr
    have hlk := lk_rg hT.1 hp.1
    have hT0 := hT.pl
    have hle := le_rg (T := T) hp.2.1
    have hT' := hT
    obtain ⟨⟨hN, hB⟩, h1, h2, h3a, h3b, h3, h4, h5, h6⟩ := hT'
    have rs : rb (.inr (p, e)) (fun s => l_name T N s.1 s.2) = l_name T N p e := rfl
    rw [rs] at hR
    have loop : ∀ (m : Nat) (k : Nat) (F : q_F), isL (lk T N p) = true → ¬ p = e → wd T N p e = -1 → p + k + m = le T N p → k ≤ 6 → mK f F → F 219 2 = p + k → F 219 5 = 0 → F 219 6 = -1 → F 219 4 = e → F 219 34 = p → V D C m_mo_name 58 [vr D 219, vl (pk27 (sg T k p)), vu] [] (Zg g h) F := by
      intro m
      induction m with
      | zero =>
        intro k F hg he hwd hm hk4 hf f2 f5 f6 f4 f34
        have hnr := pk27_rg (l := sg T k p) (sg_isL (fun j a b => hle.2.2.1 j a (by omega))) (by rw [sg_len]; omega)
        have ek : (le T N p - p).toNat = k := by omega
        have ez : le T N p = p + k := by omega
        have eL : l_name T N p e = .inr (sg T k p, sk T N (p + k), p + k) := by
          unfold l_name; rw [if_pos ⟨hg, he, hwd⟩, if_pos (by omega), ek, ez]
        have hk2 : mK f (q_up F 219 4 (p + k)) := hf.up (by decide)
        have hs2 : mpS (q_up F 219 4 (p + k)) T N (.inr (sk T N (p + k), p + k)) := hT.to hk2 (by rw [q_up_ne (Or.inr (by decide))]; exact f5) (by rw [q_up_ne (Or.inr (by decide))]; exact f6) (by rw [q_up_ne (Or.inr (by decide)), f2]; omega) (by rw [q_up_ne (Or.inr (by decide)), f2]) (q_up_eq _ _ _ _) (by show -1 ≤ p + (k : Int) ∧ p + (k : Int) ≤ N; omega)
        have K : V D C m_mo_name 145 [vr D 219, vl (pk27 (sg T k p)), vu] [] (Zg g h) F := by
          refine V_aload_0 d_mo_name_145 ?_
          refine V_aload_0 d_mo_name_146 ?_
          refine V_getI d_mo_name_147 fl_mo_191 is_mo ?_
          rw [f2]
          refine V_putI d_mo_name_150 fl_mo_205 is_mo ?_
          refine V_lload_1 d_mo_name_153 ?_
          refine V_lreturn d_mo_name_154 (hR _ _ ?_)
          rw [eL]
          exact ⟨hs2, hk2, hnr, fun l q d h => by cases h; exact ⟨rfl, fun p' e' h => by cases h; rw [q_up_ne (Or.inr (by decide))]; exact f34⟩⟩
        by_cases eN : p + k = N
        · skip
          refine V_aload_0 d_mo_name_58 ?_
          refine V_getI d_mo_name_59 fl_mo_191 is_mo ?_
          rw [f2]
          refine V_aload_0 d_mo_name_62 ?_
          refine V_getI d_mo_name_63 fl_mo_194 is_mo ?_
          rw [hf _ _ (by omega), h1]
          refine V_icmp_ge 145 d_mo_name_66 (by decide) (by omega) (by omega) (fun c66 => ?_) (fun c66 => by omega)
          exact K
        · have eb : F 220 (p + k) = T (p + k) := by rw [hf _ _ (by omega)]; exact h2 _ (by omega) (by omega)
          have bx := hB (p + k) (by omega) (by omega)
          have hno := hle.2.2.2 (by omega)
          rw [ez] at hno
          refine V_aload_0 d_mo_name_58 ?_
          refine V_getI d_mo_name_59 fl_mo_191 is_mo ?_
          rw [f2]
          refine V_aload_0 d_mo_name_62 ?_
          refine V_getI d_mo_name_63 fl_mo_194 is_mo ?_
          rw [hf _ _ (by omega), h1]
          refine V_icmp_ge 145 d_mo_name_66 (by decide) (by omega) (by omega) (fun c66 => by omega) (fun c66 => ?_)
          refine V_aload_0 d_mo_name_69 ?_
          refine V_getR d_mo_name_70 fl_mo_7 is_mo r_mo_tape ?_
          refine V_aload_0 d_mo_name_73 ?_
          refine V_getI d_mo_name_74 fl_mo_191 is_mo ?_
          rw [f2]
          refine V_iald d_mo_name_77 is_mo_tape (by omega) (by omega) ?_
          rw [eb]
          refine V_csI1 d_mo_name_78 ml_mo_201 ms_mo_isLetter (by decide) (Nat.le_of_ble_eq_true rfl) (ok_mletter (by omega)) ?_
          rintro x78 f2 ⟨hx78, e2⟩
          rw [e2]; clear e2 f2
          refine V_if_eq 145 d_mo_name_81 (by decide) (by rcases hx78 with h | h <;> omega) (fun c81 => ?_) (fun c81 => ?_)
          · skip
            exact K
          · skip
            have := q_b1 hx78 (by omega)
            rw [hno] at this; cases this
      | succ m ih =>
        intro k F hg he hwd hm hk4 hf f2 f5 f6 f4 f34
        have eb : F 220 (p + k) = T (p + k) := by rw [hf _ _ (by omega)]; exact h2 _ (by omega) (by omega)
        have bx := hB (p + k) (by omega) (by omega)
        have hyes := hle.2.2.1 (p + k) (by omega) (by omega)
        have hs2 : mpS F T N (.inr (sk T N (p + k), e)) := hT.to hf f5 f6 (by rw [f2]; omega) (by rw [f2]) f4 (by omega)
        refine V_aload_0 d_mo_name_58 ?_
        refine V_getI d_mo_name_59 fl_mo_191 is_mo ?_
        rw [f2]
        refine V_aload_0 d_mo_name_62 ?_
        refine V_getI d_mo_name_63 fl_mo_194 is_mo ?_
        rw [hf _ _ (by omega), h1]
        refine V_icmp_ge 145 d_mo_name_66 (by decide) (by omega) (by omega) (fun c66 => by omega) (fun c66 => ?_)
        refine V_aload_0 d_mo_name_69 ?_
        refine V_getR d_mo_name_70 fl_mo_7 is_mo r_mo_tape ?_
        refine V_aload_0 d_mo_name_73 ?_
        refine V_getI d_mo_name_74 fl_mo_191 is_mo ?_
        rw [f2]
        refine V_iald d_mo_name_77 is_mo_tape (by omega) (by omega) ?_
        rw [eb]
        refine V_csI1 d_mo_name_78 ml_mo_201 ms_mo_isLetter (by decide) (Nat.le_of_ble_eq_true rfl) (ok_mletter (by omega)) ?_
        rintro x78 f2 ⟨hx78, e2⟩
        rw [e2]; clear e2 f2
        refine V_if_eq 145 d_mo_name_81 (by decide) (by rcases hx78 with h | h <;> omega) (fun c81 => ?_) (fun c81 => ?_)
        · skip
          exact absurd hyes (q_b0 hx78 (by omega))
        · skip
          refine V_aload_0 d_mo_name_84 ?_
          refine V_getI d_mo_name_85 fl_mo_191 is_mo ?_
          rw [f2]
          refine V_aload_0 d_mo_name_88 ?_
          refine V_getI d_mo_name_89 fl_mo_233 is_mo ?_
          rw [f34]
          refine V_isub d_mo_name_92 ?_
          refine V_bipush 6 d_mo_name_93 (by decide) ?_
          refine V_icmp_ne 109 d_mo_name_95 (by decide) (by omega) (by omega) (fun c95 => ?_) (fun c95 => ?_)
          · skip
            refine V_ldc2 27 d_mo_name_109 co_mo_236 rfl ?_
            refine V_lload_1 d_mo_name_112 ?_
            refine V_lmul d_mo_name_113 ?_
            refine V_aload_0 d_mo_name_114 ?_
            refine V_getR d_mo_name_115 fl_mo_7 is_mo r_mo_tape ?_
            refine V_aload_0 d_mo_name_118 ?_
            refine V_getI d_mo_name_119 fl_mo_191 is_mo ?_
            rw [f2]
            refine V_iald d_mo_name_122 is_mo_tape (by omega) (by omega) ?_
            rw [eb]
            refine V_i2l d_mo_name_123 (by omega) ?_
            refine V_ladd d_mo_name_124 ?_
            refine V_ldc2 97 d_mo_name_125 co_mo_238 rfl ?_
            refine V_lsub d_mo_name_128 ?_
            refine V_lconst1 d_mo_name_129 ?_
            refine V_ladd d_mo_name_130 ?_
            refine V_lstore_1 d_mo_name_131 rfl ?_
            refine V_aload_0 d_mo_name_132 ?_
            refine V_dup d_mo_name_133 rfl ?_
            refine V_getI d_mo_name_134 fl_mo_191 is_mo ?_
            rw [f2]
            refine V_iconst 1 d_mo_name_137 ?_
            refine V_iadd d_mo_name_138 ?_
            refine V_putI d_mo_name_139 fl_mo_191 is_mo ?_
            refine V_goto 58 d_mo_name_142 (by decide) ?_
            have := ih (k + 1) (q_up F 219 2 (p + k + 1)) hg he hwd (by omega) (by omega) (hf.up (by decide)) (by rw [q_up_eq]; push_cast; omega) (by rw [q_up_ne (Or.inr (by decide))]; exact f5) (by rw [q_up_ne (Or.inr (by decide))]; exact f6) (by rw [q_up_ne (Or.inr (by decide))]; exact f4) (by rw [q_up_ne (Or.inr (by decide))]; exact f34)
            rw [sg_snoc, pk27_snoc] at this
            rw [show 27 * pk27 (sg T k p) + T (p + (k : Int)) - 97 + 1 = 27 * pk27 (sg T k p) + (T (p + (k : Int)) - 96) by omega]
            exact this
          · skip
            refine V_aload_0 d_mo_name_98 ?_
            refine V_iconst 1 d_mo_name_99 ?_
            refine V_aload_0 d_mo_name_100 ?_
            refine V_getI d_mo_name_101 fl_mo_191 is_mo ?_
            rw [f2]
            refine V_cvV2 d_mo_name_104 ml_mo_215 mv_mo_fail (by decide) (Nat.le_of_ble_eq_true rfl) is_mo (ok_mfail hs2 (by decide)) ?_
            rintro F2 ⟨hs3, hk3⟩
            refine V_lconst0 d_mo_name_107 ?_
            refine V_lreturn d_mo_name_108 (hR _ _ ?_)
            have eL : l_name T N p e = .inl (1, p + 6) := by
              unfold l_name; rw [if_pos ⟨hg, he, hwd⟩, if_neg (by omega)]
            rw [eL]
            refine ⟨?_, hf.tr hk3, by decide, fun v q d h => by cases h⟩
            have : p + (k : Int) = p + 6 := by omega
            rw [this] at hs3
            exact hs3
    refine V_aload_0 d_mo_name_0 ?_
    refine V_getI d_mo_name_1 fl_mo_185 is_mo ?_
    rw [h3a]
    refine V_if_eq 9 d_mo_name_4 (by decide) (by omega) (fun c4 => ?_) (fun c4 => by omega)
    refine V_aload_0 d_mo_name_9 ?_
    refine V_cvI0 d_mo_name_10 ml_mo_197 mv_mo_look (by decide) (Nat.le_of_ble_eq_true rfl) is_mo (ok_look hT) ?_
    rintro _ f2 ⟨rfl, e2⟩
    rw [e2]; clear e2 f2
    refine V_csI1 d_mo_name_13 ml_mo_201 ms_mo_isLetter (by decide) (Nat.le_of_ble_eq_true rfl) (ok_mletter (by omega)) ?_
    rintro x13 f2 ⟨hx13, e2⟩
    rw [e2]; clear e2 f2
    refine V_if_eq 37 d_mo_name_16 (by decide) (by rcases hx13 with h | h <;> omega) (fun c16 => ?_) (fun c16 => ?_)
    · skip
      refine V_aload_0 d_mo_name_37 ?_
      refine V_iconst 1 d_mo_name_38 ?_
      refine V_aload_0 d_mo_name_39 ?_
      refine V_getI d_mo_name_40 fl_mo_191 is_mo ?_
      rw [q_up_eq]
      refine V_cvV2 d_mo_name_43 ml_mo_215 mv_mo_fail (by decide) (Nat.le_of_ble_eq_true rfl) is_mo (ok_mfail hT0 (by decide)) ?_
      rintro F2 ⟨hs3, hk3⟩
      refine V_lconst0 d_mo_name_46 ?_
      refine V_lreturn d_mo_name_47 (hR _ _ ?_)
      have eL : l_name T N p e = .inl (1, p) := by unfold l_name; rw [if_neg (fun e => q_b0 hx13 (by omega) e.1)]
      rw [eL]
      exact ⟨hs3, ((mK.refl f).up (by decide)).tr hk3, by decide, fun v q d h => by cases h⟩
    · skip
      refine V_aload_0 d_mo_name_19 ?_
      refine V_getI d_mo_name_20 fl_mo_191 is_mo ?_
      rw [q_up_eq]
      refine V_aload_0 d_mo_name_23 ?_
      refine V_getI d_mo_name_24 fl_mo_205 is_mo ?_
      rw [q_up_ne (Or.inr (by decide)), h5]
      refine V_icmp_eq 37 d_mo_name_27 (by decide) (by omega) (by omega) (fun c27 => ?_) (fun c27 => ?_)
      · skip
        refine V_aload_0 d_mo_name_37 ?_
        refine V_iconst 1 d_mo_name_38 ?_
        refine V_aload_0 d_mo_name_39 ?_
        refine V_getI d_mo_name_40 fl_mo_191 is_mo ?_
        rw [q_up_eq]
        refine V_cvV2 d_mo_name_43 ml_mo_215 mv_mo_fail (by decide) (Nat.le_of_ble_eq_true rfl) is_mo (ok_mfail hT0 (by decide)) ?_
        rintro F2 ⟨hs3, hk3⟩
        refine V_lconst0 d_mo_name_46 ?_
        refine V_lreturn d_mo_name_47 (hR _ _ ?_)
        have eL : l_name T N p e = .inl (1, p) := by unfold l_name; rw [if_neg (fun e => e.2.1 (by omega))]
        rw [eL]
        exact ⟨hs3, ((mK.refl f).up (by decide)).tr hk3, by decide, fun v q d h => by cases h⟩
      · skip
        refine V_aload_0 d_mo_name_30 ?_
        refine V_cvI0 d_mo_name_31 ml_mo_229 mv_mo_isOwnHere (by decide) (Nat.le_of_ble_eq_true rfl) is_mo (ok_isOwnHere hT hw) ?_
        rintro x31 f2 ⟨hx31, e2⟩
        rw [e2]; clear e2 f2
        refine V_if_eq 48 d_mo_name_34 (by decide) (by rcases hx31 with h | h <;> omega) (fun c34 => ?_) (fun c34 => ?_)
        · skip
          refine V_aload_0 d_mo_name_48 ?_
          refine V_aload_0 d_mo_name_49 ?_
          refine V_getI d_mo_name_50 fl_mo_191 is_mo ?_
          rw [q_up_eq]
          refine V_putI d_mo_name_53 fl_mo_233 is_mo ?_
          refine V_lconst0 d_mo_name_56 ?_
          refine V_lstore_1 d_mo_name_57 rfl ?_
          have hwd : wd T N p e = -1 := by rcases hx31 with h | h <;> omega
          exact loop (le T N p - p).toNat 0 _ (q_b1 hx13 (by omega)) (by omega) hwd (by omega) (by omega) (((mK.refl f).up (by decide)).up (by decide)) (by rw [q_up_ne (Or.inr (by decide)), q_up_eq]; omega) (by rw [q_up_ne (Or.inr (by decide)), q_up_ne (Or.inr (by decide))]; exact h3a) (by rw [q_up_ne (Or.inr (by decide)), q_up_ne (Or.inr (by decide))]; exact h3b) (by rw [q_up_ne (Or.inr (by decide)), q_up_ne (Or.inr (by decide))]; exact h5) (q_up_eq _ _ _ _)
        · skip
          refine V_aload_0 d_mo_name_37 ?_
          refine V_iconst 1 d_mo_name_38 ?_
          refine V_aload_0 d_mo_name_39 ?_
          refine V_getI d_mo_name_40 fl_mo_191 is_mo ?_
          rw [q_up_eq]
          refine V_cvV2 d_mo_name_43 ml_mo_215 mv_mo_fail (by decide) (Nat.le_of_ble_eq_true rfl) is_mo (ok_mfail hT0 (by decide)) ?_
          rintro F2 ⟨hs3, hk3⟩
          refine V_lconst0 d_mo_name_46 ?_
          refine V_lreturn d_mo_name_47 (hR _ _ ?_)
          have eL : l_name T N p e = .inl (1, p) := by
            unfold l_name; rw [if_neg (fun e => ?_)]
            have := e.2.2
            rcases hx31 with h | h <;> omega
          rw [eL]
          exact ⟨hs3, ((mK.refl f).up (by decide)).tr hk3, by decide, fun v q d h => by cases h⟩
end RL2
