/-! the class reads a statement -/
section STM8
variable {D : q_D} {f f' S : q_F} {A : q_As} {g h : Int} {T : Int → Int} {N p e : Int}
theorem ok_readStatement (hh : q_G h) {L : List Int} (hC : cM h f S T N p e L) (hW : pW S) (hL : (L.length : Int) ≤ p) (b : Bool) (hb : b = true → S 1 0 = 0) : OkI D m_gr_readStatement [vr D 3, vi (if b then 1 else 0)] (Zg g h) f (fun x f' => cG h f f' T N x (sStm b S T N L p e)) := by
  have hg2 := q_G51 hh
  have hp := hC.1.pr
  have hwr := wd_rg (T := T) (N := N) p e
  have hT0 := cT.refl hC
  have hk1 : cK f (q_up (q_up f 1 2 p) 1 7 (wE T N p e)) := (cK.refl f).up.up
  have hT1 : cT h f (q_up (q_up f 1 2 p) 1 7 (wE T N p e)) S T N p e L := ⟨hC.ck hh hk1 (hC.1.here _), by rw [q_up_ne (Or.inr (by decide)), q_up_ne (Or.inr (by decide))], by rw [q_up_ne (Or.inr (by decide)), q_up_ne (Or.inr (by decide))], hk1.s⟩
  have e12 : (q_up (q_up f 1 2 p) 1 7 (wE T N p e)) 1 2 = p := by rw [q_up_ne (Or.inr (by decide)), q_up_eq]
  have e17 : ¬ wd T N p e = -1 → (q_up (q_up f 1 2 p) 1 7 (wE T N p e)) 1 7 = le T N p := fun hne => by
    rw [q_up_eq]; unfold wE; rw [if_neg (wd_lt hp.2.1 hne).1]
  refine OkB_of (L0 := [vr D 3, vi (if b then 1 else 0), vu]) mi_gr_readStatement rfl rfl (Nat.le_of_ble_eq_true rfl) (fun C hR => ?_)
  generalize hr : sStm b S T N L p e = r at *
  generalize hF1 : q_up (q_up f 1 2 p) 1 7 (wE T N p e) = F1 at *
  have bfail : wd T N p e = -1 ∨ True → r = .inl (1, p) → ∀ u : Value, ∀ w : Int, V D C m_gr_readStatement 289 [vr D 3, u, vi w] [] (Zg g h) F1 := by
    intro _ hrr u w
    refine V_aload_0 d_gr_readStatement_289 ?_
    refine V_getR d_gr_readStatement_290 fl_gr_9 is_gr r_gr_tape ?_
    refine V_cvI0 d_gr_readStatement_293 ml_gr_72 mv_tp_failHere (by decide) (Nat.le_of_ble_eq_true rfl) is_tp (ok_failHere e12) ?_
    rintro x f9 ⟨hx, e9⟩
    rw [hx, e9]; clear hx e9 f9
    refine V_ireturn d_gr_readStatement_296 (hR _ _ (by decide) ?_)
    rw [hrr]
    exact ⟨rfl, by rw [q_up_ne (Or.inr (by decide)), q_up_eq], q_up_eq _ _ _ _, hT1.2.2.2.tr (cK.refl F1).up.up.s⟩
  have tkw : ¬ wd T N p e = -1 → OkI D m_tp_takeWordHere [vr D 1] (Zg g h) F1 (fun y f' => y = 1 ∧ cT h f f' S T N (sk T N (le T N p)) (le T N p) L) := fun hne => by
    have hle := le_rg (T := T) hp.2.1
    refine (ok_takeWordHere (e17 hne)).mn (fun y f' hy => ⟨hy.1, ?_⟩)
    rw [hy.2]
    exact ⟨hT1.1.ck hh (cK.refl F1).up.up (hT1.1.1.to (cK.refl F1).up.up (by rw [q_up_ne (Or.inr (by decide)), q_up_ne (Or.inr (by decide))]; exact hT1.1.1.2.1) (by rw [q_up_ne (Or.inr (by decide)), q_up_eq]; omega) (by rw [q_up_ne (Or.inr (by decide)), q_up_eq]) (q_up_eq _ _ _ _) (by omega)), by rw [q_up_ne (Or.inr (by decide)), q_up_ne (Or.inr (by decide))]; exact hT1.2.1, by rw [q_up_ne (Or.inr (by decide)), q_up_ne (Or.inr (by decide))]; exact hT1.2.2.1, hT1.2.2.2.tr (cK.refl F1).up.up.s⟩
  have hwp : ¬ wd T N p e = -1 → p ≤ sk T N (le T N p) := fun hne => by have := wd_ge (T := T) hp.2.1 hne; omega
  have K131 : wd T N p e = 1 → bgn S T N 1 p (fun q d => lf L (sPerson S T N q d)) = r → ∀ u : Value, V D C m_gr_readStatement 131 [vr D 3, u, vi 1] [] (Zg g h) F1 := by
    intro hw hr1 u
    have hne : ¬ wd T N p e = -1 := by omega
    have hwp := hwp hne
    have okb := ok_begin (D := D) (g := g) hh hT1.1 hW hne e12 (e17 hne) (k := 1) (by decide)
    unfold bgn at hr1
    by_cases hroom : S 1 1 < mst 1
    · rw [if_pos hroom] at hr1 okb
      refine V_aload_0 d_gr_readStatement_131 ?_
      refine V_iconst 1 d_gr_readStatement_132 ?_
      refine V_cvI1 d_gr_readStatement_133 ml_gr_82 mv_gr_begin (by decide) (Nat.le_of_ble_eq_true rfl) is_gr (okb) ?_
      rintro x F2 hx
      obtain ⟨rfl, hT2⟩ := cO.in hh hT1 hx rfl
      refine V_if_eq 150 d_gr_readStatement_136 (by decide) (by omega) (fun c136 => by omega) (fun c136 => ?_)
      refine V_aload_0 d_gr_readStatement_139 ?_
      refine V_cvI0 d_gr_readStatement_140 ml_gr_85 mv_gr_readPerson (by decide) (Nat.le_of_ble_eq_true rfl) is_gr (ok_readPerson hh hT2.1 hW (by have : S 1 1 < mst 1 := hroom; exact this)) ?_
      rintro x3 F3 hx3
      have hx4 := cG.tr hT2 hx3.lf
      have hx4 : cG h f F3 T N x3 r := by rw [← hr1]; exact hx4
      have hx5 := hx4.rg
      refine V_if_eq 150 d_gr_readStatement_143 (by decide) (by omega) (fun c143 => ?_) (fun c143 => ?_)
      · skip
        have ex : x3 = 0 := by omega
        subst ex
        refine V_iconst 0 d_gr_readStatement_150 ?_
        refine V_ireturn d_gr_readStatement_151 (hR _ _ (by decide) ?_)
        exact hx4
      · skip
        have ex : x3 = 1 := by omega
        subst ex
        refine V_iconst 1 d_gr_readStatement_146 ?_
        refine V_goto 151 d_gr_readStatement_147 (by decide) ?_
        refine V_ireturn d_gr_readStatement_151 (hR _ _ (by decide) ?_)
        exact hx4
    · rw [if_neg hroom] at hr1 okb
      refine V_aload_0 d_gr_readStatement_131 ?_
      refine V_iconst 1 d_gr_readStatement_132 ?_
      refine V_cvI1 d_gr_readStatement_133 ml_gr_82 mv_gr_begin (by decide) (Nat.le_of_ble_eq_true rfl) is_gr (okb) ?_
      rintro x F2 hx
      obtain ⟨rfl, hz⟩ := cO.ig hT1 hx rfl
      refine V_if_eq 150 d_gr_readStatement_136 (by decide) (by omega) (fun c136 => ?_) (fun c136 => by omega)
      refine V_iconst 0 d_gr_readStatement_150 ?_
      refine V_ireturn d_gr_readStatement_151 (hR _ _ (by decide) ?_)
      rw [← hr1]; exact hz
  have K152 : wd T N p e = 2 → bgn S T N 2 p (fun q d => lf L (sShade S T N q d)) = r → ∀ u : Value, V D C m_gr_readStatement 152 [vr D 3, u, vi 2] [] (Zg g h) F1 := by
    intro hw hr1 u
    have hne : ¬ wd T N p e = -1 := by omega
    have hwp := hwp hne
    have okb := ok_begin (D := D) (g := g) hh hT1.1 hW hne e12 (e17 hne) (k := 2) (by decide)
    unfold bgn at hr1
    by_cases hroom : S 1 2 < mst 2
    · rw [if_pos hroom] at hr1 okb
      refine V_aload_0 d_gr_readStatement_152 ?_
      refine V_iconst 2 d_gr_readStatement_153 ?_
      refine V_cvI1 d_gr_readStatement_154 ml_gr_82 mv_gr_begin (by decide) (Nat.le_of_ble_eq_true rfl) is_gr (okb) ?_
      rintro x F2 hx
      obtain ⟨rfl, hT2⟩ := cO.in hh hT1 hx rfl
      refine V_if_eq 171 d_gr_readStatement_157 (by decide) (by omega) (fun c157 => by omega) (fun c157 => ?_)
      refine V_aload_0 d_gr_readStatement_160 ?_
      refine V_cvI0 d_gr_readStatement_161 ml_gr_88 mv_gr_readShade (by decide) (Nat.le_of_ble_eq_true rfl) is_gr (ok_readShade hh hT2.1 hW (by have : S 1 2 < mst 2 := hroom; exact this)) ?_
      rintro x3 F3 hx3
      have hx4 := cG.tr hT2 hx3.lf
      have hx4 : cG h f F3 T N x3 r := by rw [← hr1]; exact hx4
      have hx5 := hx4.rg
      refine V_if_eq 171 d_gr_readStatement_164 (by decide) (by omega) (fun c164 => ?_) (fun c164 => ?_)
      · skip
        have ex : x3 = 0 := by omega
        subst ex
        refine V_iconst 0 d_gr_readStatement_171 ?_
        refine V_ireturn d_gr_readStatement_172 (hR _ _ (by decide) ?_)
        exact hx4
      · skip
        have ex : x3 = 1 := by omega
        subst ex
        refine V_iconst 1 d_gr_readStatement_167 ?_
        refine V_goto 172 d_gr_readStatement_168 (by decide) ?_
        refine V_ireturn d_gr_readStatement_172 (hR _ _ (by decide) ?_)
        exact hx4
    · rw [if_neg hroom] at hr1 okb
      refine V_aload_0 d_gr_readStatement_152 ?_
      refine V_iconst 2 d_gr_readStatement_153 ?_
      refine V_cvI1 d_gr_readStatement_154 ml_gr_82 mv_gr_begin (by decide) (Nat.le_of_ble_eq_true rfl) is_gr (okb) ?_
      rintro x F2 hx
      obtain ⟨rfl, hz⟩ := cO.ig hT1 hx rfl
      refine V_if_eq 171 d_gr_readStatement_157 (by decide) (by omega) (fun c157 => ?_) (fun c157 => by omega)
      refine V_iconst 0 d_gr_readStatement_171 ?_
      refine V_ireturn d_gr_readStatement_172 (hR _ _ (by decide) ?_)
      rw [← hr1]; exact hz
  have K173 : wd T N p e = 5 → bgn S T N 3 p (fun q d => lf L (sNew S T N 3 q d)) = r → ∀ u : Value, V D C m_gr_readStatement 173 [vr D 3, u, vi 5] [] (Zg g h) F1 := by
    intro hw hr1 u
    have hne : ¬ wd T N p e = -1 := by omega
    have hwp := hwp hne
    have okb := ok_begin (D := D) (g := g) hh hT1.1 hW hne e12 (e17 hne) (k := 3) (by decide)
    unfold bgn at hr1
    by_cases hroom : S 1 3 < mst 3
    · rw [if_pos hroom] at hr1 okb
      refine V_aload_0 d_gr_readStatement_173 ?_
      refine V_iconst 3 d_gr_readStatement_174 ?_
      refine V_cvI1 d_gr_readStatement_175 ml_gr_82 mv_gr_begin (by decide) (Nat.le_of_ble_eq_true rfl) is_gr (okb) ?_
      rintro x F2 hx
      obtain ⟨rfl, hT2⟩ := cO.in hh hT1 hx rfl
      refine V_if_eq 193 d_gr_readStatement_178 (by decide) (by omega) (fun c178 => by omega) (fun c178 => ?_)
      refine V_aload_0 d_gr_readStatement_181 ?_
      refine V_iconst 3 d_gr_readStatement_182 ?_
      refine V_cvI1 d_gr_readStatement_183 ml_gr_91 mv_gr_readNewName (by decide) (Nat.le_of_ble_eq_true rfl) is_gr (ok_readNewName hh hT2.1 hW (by decide) hroom) ?_
      rintro x3 F3 hx3
      have hx4 := cG.tr hT2 hx3.lf
      have hx4 : cG h f F3 T N x3 r := by rw [← hr1]; exact hx4
      have hx5 := hx4.rg
      refine V_if_eq 193 d_gr_readStatement_186 (by decide) (by omega) (fun c186 => ?_) (fun c186 => ?_)
      · skip
        have ex : x3 = 0 := by omega
        subst ex
        refine V_iconst 0 d_gr_readStatement_193 ?_
        refine V_ireturn d_gr_readStatement_194 (hR _ _ (by decide) ?_)
        exact hx4
      · skip
        have ex : x3 = 1 := by omega
        subst ex
        refine V_iconst 1 d_gr_readStatement_189 ?_
        refine V_goto 194 d_gr_readStatement_190 (by decide) ?_
        refine V_ireturn d_gr_readStatement_194 (hR _ _ (by decide) ?_)
        exact hx4
    · rw [if_neg hroom] at hr1 okb
      refine V_aload_0 d_gr_readStatement_173 ?_
      refine V_iconst 3 d_gr_readStatement_174 ?_
      refine V_cvI1 d_gr_readStatement_175 ml_gr_82 mv_gr_begin (by decide) (Nat.le_of_ble_eq_true rfl) is_gr (okb) ?_
      rintro x F2 hx
      obtain ⟨rfl, hz⟩ := cO.ig hT1 hx rfl
      refine V_if_eq 193 d_gr_readStatement_178 (by decide) (by omega) (fun c178 => ?_) (fun c178 => by omega)
      refine V_iconst 0 d_gr_readStatement_193 ?_
      refine V_ireturn d_gr_readStatement_194 (hR _ _ (by decide) ?_)
      rw [← hr1]; exact hz
  have K195 : wd T N p e = 6 → bgn S T N 6 p (fun q d => lf L (sRoad S T N q d)) = r → ∀ u : Value, V D C m_gr_readStatement 195 [vr D 3, u, vi 6] [] (Zg g h) F1 := by
    intro hw hr1 u
    have hne : ¬ wd T N p e = -1 := by omega
    have hwp := hwp hne
    have okb := ok_begin (D := D) (g := g) hh hT1.1 hW hne e12 (e17 hne) (k := 6) (by decide)
    unfold bgn at hr1
    by_cases hroom : S 1 6 < mst 6
    · rw [if_pos hroom] at hr1 okb
      refine V_aload_0 d_gr_readStatement_195 ?_
      refine V_bipush 6 d_gr_readStatement_196 (by decide) ?_
      refine V_cvI1 d_gr_readStatement_198 ml_gr_82 mv_gr_begin (by decide) (Nat.le_of_ble_eq_true rfl) is_gr (okb) ?_
      rintro x F2 hx
      obtain ⟨rfl, hT2⟩ := cO.in hh hT1 hx rfl
      refine V_if_eq 215 d_gr_readStatement_201 (by decide) (by omega) (fun c201 => by omega) (fun c201 => ?_)
      refine V_aload_0 d_gr_readStatement_204 ?_
      refine V_cvI0 d_gr_readStatement_205 ml_gr_94 mv_gr_readRoad (by decide) (Nat.le_of_ble_eq_true rfl) is_gr (ok_readRoad hh hT2.1 hW (by have : S 1 6 < mst 6 := hroom; exact this)) ?_
      rintro x3 F3 hx3
      have hx4 := cG.tr hT2 hx3.lf
      have hx4 : cG h f F3 T N x3 r := by rw [← hr1]; exact hx4
      have hx5 := hx4.rg
      refine V_if_eq 215 d_gr_readStatement_208 (by decide) (by omega) (fun c208 => ?_) (fun c208 => ?_)
      · skip
        have ex : x3 = 0 := by omega
        subst ex
        refine V_iconst 0 d_gr_readStatement_215 ?_
        refine V_ireturn d_gr_readStatement_216 (hR _ _ (by decide) ?_)
        exact hx4
      · skip
        have ex : x3 = 1 := by omega
        subst ex
        refine V_iconst 1 d_gr_readStatement_211 ?_
        refine V_goto 216 d_gr_readStatement_212 (by decide) ?_
        refine V_ireturn d_gr_readStatement_216 (hR _ _ (by decide) ?_)
        exact hx4
    · rw [if_neg hroom] at hr1 okb
      refine V_aload_0 d_gr_readStatement_195 ?_
      refine V_bipush 6 d_gr_readStatement_196 (by decide) ?_
      refine V_cvI1 d_gr_readStatement_198 ml_gr_82 mv_gr_begin (by decide) (Nat.le_of_ble_eq_true rfl) is_gr (okb) ?_
      rintro x F2 hx
      obtain ⟨rfl, hz⟩ := cO.ig hT1 hx rfl
      refine V_if_eq 215 d_gr_readStatement_201 (by decide) (by omega) (fun c201 => ?_) (fun c201 => by omega)
      refine V_iconst 0 d_gr_readStatement_215 ?_
      refine V_ireturn d_gr_readStatement_216 (hR _ _ (by decide) ?_)
      rw [← hr1]; exact hz
  have K217 : wd T N p e = 7 → bgn S T N 4 p (fun q d => lf L (sSeen S T N q d)) = r → ∀ u : Value, V D C m_gr_readStatement 217 [vr D 3, u, vi 7] [] (Zg g h) F1 := by
    intro hw hr1 u
    have hne : ¬ wd T N p e = -1 := by omega
    have hwp := hwp hne
    have okb := ok_begin (D := D) (g := g) hh hT1.1 hW hne e12 (e17 hne) (k := 4) (by decide)
    unfold bgn at hr1
    by_cases hroom : S 1 4 < mst 4
    · rw [if_pos hroom] at hr1 okb
      refine V_aload_0 d_gr_readStatement_217 ?_
      refine V_iconst 4 d_gr_readStatement_218 ?_
      refine V_cvI1 d_gr_readStatement_219 ml_gr_82 mv_gr_begin (by decide) (Nat.le_of_ble_eq_true rfl) is_gr (okb) ?_
      rintro x F2 hx
      obtain ⟨rfl, hT2⟩ := cO.in hh hT1 hx rfl
      refine V_if_eq 236 d_gr_readStatement_222 (by decide) (by omega) (fun c222 => by omega) (fun c222 => ?_)
      refine V_aload_0 d_gr_readStatement_225 ?_
      refine V_cvI0 d_gr_readStatement_226 ml_gr_97 mv_gr_readSeen (by decide) (Nat.le_of_ble_eq_true rfl) is_gr (ok_readSeen hh hT2.1 hW (by have : S 1 4 < mst 4 := hroom; exact this)) ?_
      rintro x3 F3 hx3
      have hx4 := cG.tr hT2 hx3.lf
      have hx4 : cG h f F3 T N x3 r := by rw [← hr1]; exact hx4
      have hx5 := hx4.rg
      refine V_if_eq 236 d_gr_readStatement_229 (by decide) (by omega) (fun c229 => ?_) (fun c229 => ?_)
      · skip
        have ex : x3 = 0 := by omega
        subst ex
        refine V_iconst 0 d_gr_readStatement_236 ?_
        refine V_ireturn d_gr_readStatement_237 (hR _ _ (by decide) ?_)
        exact hx4
      · skip
        have ex : x3 = 1 := by omega
        subst ex
        refine V_iconst 1 d_gr_readStatement_232 ?_
        refine V_goto 237 d_gr_readStatement_233 (by decide) ?_
        refine V_ireturn d_gr_readStatement_237 (hR _ _ (by decide) ?_)
        exact hx4
    · rw [if_neg hroom] at hr1 okb
      refine V_aload_0 d_gr_readStatement_217 ?_
      refine V_iconst 4 d_gr_readStatement_218 ?_
      refine V_cvI1 d_gr_readStatement_219 ml_gr_82 mv_gr_begin (by decide) (Nat.le_of_ble_eq_true rfl) is_gr (okb) ?_
      rintro x F2 hx
      obtain ⟨rfl, hz⟩ := cO.ig hT1 hx rfl
      refine V_if_eq 236 d_gr_readStatement_222 (by decide) (by omega) (fun c222 => ?_) (fun c222 => by omega)
      refine V_iconst 0 d_gr_readStatement_236 ?_
      refine V_ireturn d_gr_readStatement_237 (hR _ _ (by decide) ?_)
      rw [← hr1]; exact hz
  have K238 : wd T N p e = 13 → bgn S T N 5 p (fun q d => sRule S T N L q d) = r → ∀ u : Value, V D C m_gr_readStatement 238 [vr D 3, u, vi 13] [] (Zg g h) F1 := by
    intro hw hr1 u
    have hne : ¬ wd T N p e = -1 := by omega
    have hwp := hwp hne
    have okb := ok_begin (D := D) (g := g) hh hT1.1 hW hne e12 (e17 hne) (k := 5) (by decide)
    unfold bgn at hr1
    by_cases hroom : S 1 5 < mst 5
    · rw [if_pos hroom] at hr1 okb
      refine V_aload_0 d_gr_readStatement_238 ?_
      refine V_iconst 5 d_gr_readStatement_239 ?_
      refine V_cvI1 d_gr_readStatement_240 ml_gr_82 mv_gr_begin (by decide) (Nat.le_of_ble_eq_true rfl) is_gr (okb) ?_
      rintro x F2 hx
      obtain ⟨rfl, hT2⟩ := cO.in hh hT1 hx rfl
      refine V_if_eq 264 d_gr_readStatement_243 (by decide) (by omega) (fun c243 => by omega) (fun c243 => ?_)
      refine V_aload_0 d_gr_readStatement_246 ?_
      refine V_getR d_gr_readStatement_247 fl_gr_20 is_gr r_gr_rules ?_
      refine V_aload_0 d_gr_readStatement_250 ?_
      refine V_getR d_gr_readStatement_251 fl_gr_24 is_gr (r_gr_into hh) ?_
      refine V_cvI1 d_gr_readStatement_254 ml_gr_100 mv_ru_readRule (by decide) (Nat.le_of_ble_eq_true rfl) is_ru (ok_readRule hh hT2.1 (by show (L.length : Int) ≤ sk T N (le T N p); omega) (by have : S 1 5 < mst 5 := hroom; have h5 := hW.2.2.2.2.2.1; exact ⟨h5.1, this⟩)) ?_
      rintro x3 F3 hx3
      have hx4 := cG.tr hT2 hx3
      have hx4 : cG h f F3 T N x3 r := by rw [← hr1]; exact hx4
      have hx5 := hx4.rg
      refine V_if_eq 264 d_gr_readStatement_257 (by decide) (by omega) (fun c257 => ?_) (fun c257 => ?_)
      · skip
        have ex : x3 = 0 := by omega
        subst ex
        refine V_iconst 0 d_gr_readStatement_264 ?_
        refine V_ireturn d_gr_readStatement_265 (hR _ _ (by decide) ?_)
        exact hx4
      · skip
        have ex : x3 = 1 := by omega
        subst ex
        refine V_iconst 1 d_gr_readStatement_260 ?_
        refine V_goto 265 d_gr_readStatement_261 (by decide) ?_
        refine V_ireturn d_gr_readStatement_265 (hR _ _ (by decide) ?_)
        exact hx4
    · rw [if_neg hroom] at hr1 okb
      refine V_aload_0 d_gr_readStatement_238 ?_
      refine V_iconst 5 d_gr_readStatement_239 ?_
      refine V_cvI1 d_gr_readStatement_240 ml_gr_82 mv_gr_begin (by decide) (Nat.le_of_ble_eq_true rfl) is_gr (okb) ?_
      rintro x F2 hx
      obtain ⟨rfl, hz⟩ := cO.ig hT1 hx rfl
      refine V_if_eq 264 d_gr_readStatement_243 (by decide) (by omega) (fun c243 => ?_) (fun c243 => by omega)
      refine V_iconst 0 d_gr_readStatement_264 ?_
      refine V_ireturn d_gr_readStatement_265 (hR _ _ (by decide) ?_)
      rw [← hr1]; exact hz
  have K266 : wd T N p e = 15 → lf L (sTithe S T N (sk T N (le T N p)) (le T N p)) = r → ∀ u : Value, V D C m_gr_readStatement 266 [vr D 3, u, vi 15] [] (Zg g h) F1 := by
    intro hw hr1 u
    have hne : ¬ wd T N p e = -1 := by omega
    refine V_aload_0 d_gr_readStatement_266 ?_
    refine V_getR d_gr_readStatement_267 fl_gr_9 is_gr r_gr_tape ?_
    refine V_cvI0 d_gr_readStatement_270 ml_gr_76 mv_tp_takeWordHere (by decide) (Nat.le_of_ble_eq_true rfl) is_tp (tkw hne) ?_
    rintro x F2 ⟨rfl, hT2⟩
    refine V_if_eq 287 d_gr_readStatement_273 (by decide) (by omega) (fun c273 => by omega) (fun c273 => ?_)
    refine V_aload_0 d_gr_readStatement_276 ?_
    refine V_cvI0 d_gr_readStatement_277 ml_gr_104 mv_gr_readTithe (by decide) (Nat.le_of_ble_eq_true rfl) is_gr (ok_readTithe hh hT2.1) ?_
    rintro x3 F3 hx3
    have hx4 := cG.tr hT2 hx3.lf
    have hx4 : cG h f F3 T N x3 r := by rw [← hr1]; exact hx4
    have hx5 := hx4.rg
    refine V_if_eq 287 d_gr_readStatement_280 (by decide) (by omega) (fun c280 => ?_) (fun c280 => ?_)
    · skip
      have ex : x3 = 0 := by omega
      subst ex
      refine V_iconst 0 d_gr_readStatement_287 ?_
      refine V_ireturn d_gr_readStatement_288 (hR _ _ (by decide) ?_)
      exact hx4
    · skip
      have ex : x3 = 1 := by omega
      subst ex
      refine V_iconst 1 d_gr_readStatement_283 ?_
      refine V_goto 288 d_gr_readStatement_284 (by decide) ?_
      refine V_ireturn d_gr_readStatement_288 (hR _ _ (by decide) ?_)
      exact hx4
  have K108 : wd T N p e = 0 → S 1 0 = 0 → lf L (sTr T N 6 0 S (sk T N (le T N p)) (le T N p)) = r → ∀ u : Value, V D C m_gr_readStatement 108 [vr D 3, u, vi 0] [] (Zg g h) F1 := by
    intro hw h10 hr1 u
    have hne : ¬ wd T N p e = -1 := by omega
    refine V_aload_0 d_gr_readStatement_108 ?_
    refine V_getR d_gr_readStatement_109 fl_gr_9 is_gr r_gr_tape ?_
    refine V_cvI0 d_gr_readStatement_112 ml_gr_76 mv_tp_takeWordHere (by decide) (Nat.le_of_ble_eq_true rfl) is_tp (tkw hne) ?_
    rintro x F2 ⟨rfl, hT2⟩
    refine V_if_eq 129 d_gr_readStatement_115 (by decide) (by omega) (fun c115 => by omega) (fun c115 => ?_)
    refine V_aload_0 d_gr_readStatement_118 ?_
    refine V_cvI0 d_gr_readStatement_119 ml_gr_79 mv_gr_readTraits (by decide) (Nat.le_of_ble_eq_true rfl) is_gr (ok_readTraits hh hT2.1 hW h10) ?_
    rintro x3 F3 hx3
    have hx4 := cG.tr hT2 hx3.lf
    have hx4 : cG h f F3 T N x3 r := by rw [← hr1]; exact hx4
    have hx5 := hx4.rg
    refine V_if_eq 129 d_gr_readStatement_122 (by decide) (by omega) (fun c122 => ?_) (fun c122 => ?_)
    · skip
      have ex : x3 = 0 := by omega
      subst ex
      refine V_iconst 0 d_gr_readStatement_129 ?_
      refine V_ireturn d_gr_readStatement_130 (hR _ _ (by decide) ?_)
      exact hx4
    · skip
      have ex : x3 = 1 := by omega
      subst ex
      refine V_iconst 1 d_gr_readStatement_125 ?_
      refine V_goto 130 d_gr_readStatement_126 (by decide) ?_
      refine V_ireturn d_gr_readStatement_130 (hR _ _ (by decide) ?_)
      exact hx4
  unfold sStm at hr
  have K21 : r = .inl (1, p) → ∀ u : Value, ∀ w : Int, V D C m_gr_readStatement 21 [vr D 3, u, vi w] [] (Zg g h) F1 := by
    intro hrr u w
    refine V_aload_0 d_gr_readStatement_21 ?_
    refine V_getR d_gr_readStatement_22 fl_gr_9 is_gr r_gr_tape ?_
    refine V_cvI0 d_gr_readStatement_25 ml_gr_72 mv_tp_failHere (by decide) (Nat.le_of_ble_eq_true rfl) is_tp (ok_failHere e12) ?_
    rintro x f9 ⟨hx, e9⟩
    rw [hx, e9]; clear hx e9 f9
    refine V_ireturn d_gr_readStatement_28 (hR _ _ (by decide) ?_)
    rw [hrr]
    exact ⟨rfl, by rw [q_up_ne (Or.inr (by decide)), q_up_eq], q_up_eq _ _ _ _, hT1.2.2.2.tr (cK.refl F1).up.up.s⟩
  cases b with
  | true =>
    rw [if_pos rfl] at hr
    show V D C m_gr_readStatement 0 [vr D 3, vi 1, vu] [] (Zg g h) f
    by_cases h0 : wd T N p e = 0
    · rw [if_pos h0] at hr
      have K := K108 h0 (hb rfl) hr
      refine V_aload_0 d_gr_readStatement_0 ?_
      refine V_getR d_gr_readStatement_1 fl_gr_9 is_gr r_gr_tape ?_
      refine V_cvI0 d_gr_readStatement_4 ml_gr_69 mv_tp_wordHere (by decide) (Nat.le_of_ble_eq_true rfl) is_tp (ok_wordHere hC.1) ?_
      rintro _ f2 ⟨rfl, e2⟩
      rw [e2]; clear e2 f2
      rw [hF1, h0]
      refine V_istore_2 d_gr_readStatement_7 rfl ?_
      refine V_iload_1 d_gr_readStatement_8 ?_
      refine V_iload_2 d_gr_readStatement_9 ?_
      refine V_if_ne 17 d_gr_readStatement_10 (by decide) (by omega) (fun c10 => by omega) (fun c10 => ?_)
      refine V_iconst 1 d_gr_readStatement_13 ?_
      refine V_goto 18 d_gr_readStatement_14 (by decide) ?_
      refine V_icmp_eq 29 d_gr_readStatement_18 (by decide) (by omega) (by omega) (fun c18 => ?_) (fun c18 => by omega)
      refine V_iload_2 d_gr_readStatement_29 ?_
      refine V_tsi 108 d_gr_readStatement_30 (by decide) (by decide) rfl (by decide) ?_
      exact K _
    · rw [if_neg h0] at hr
      refine V_aload_0 d_gr_readStatement_0 ?_
      refine V_getR d_gr_readStatement_1 fl_gr_9 is_gr r_gr_tape ?_
      refine V_cvI0 d_gr_readStatement_4 ml_gr_69 mv_tp_wordHere (by decide) (Nat.le_of_ble_eq_true rfl) is_tp (ok_wordHere hC.1) ?_
      rintro _ f2 ⟨rfl, e2⟩
      rw [e2]; clear e2 f2
      rw [hF1]
      refine V_istore_2 d_gr_readStatement_7 rfl ?_
      refine V_iload_1 d_gr_readStatement_8 ?_
      refine V_iload_2 d_gr_readStatement_9 ?_
      refine V_if_ne 17 d_gr_readStatement_10 (by decide) (by omega) (fun c10 => ?_) (fun c10 => by omega)
      refine V_iconst 0 d_gr_readStatement_17 ?_
      refine V_icmp_eq 29 d_gr_readStatement_18 (by decide) (by omega) (by omega) (fun c18 => by omega) (fun c18 => ?_)
      exact K21 hr.symm _ _
  | false =>
    rw [if_neg (by decide)] at hr
    show V D C m_gr_readStatement 0 [vr D 3, vi 0, vu] [] (Zg g h) f
    by_cases h0 : wd T N p e = 0
    · rw [if_neg (by omega), if_neg (by omega), if_neg (by omega), if_neg (by omega), if_neg (by omega), if_neg (by omega), if_neg (by omega)] at hr
      refine V_aload_0 d_gr_readStatement_0 ?_
      refine V_getR d_gr_readStatement_1 fl_gr_9 is_gr r_gr_tape ?_
      refine V_cvI0 d_gr_readStatement_4 ml_gr_69 mv_tp_wordHere (by decide) (Nat.le_of_ble_eq_true rfl) is_tp (ok_wordHere hC.1) ?_
      rintro _ f2 ⟨rfl, e2⟩
      rw [e2]; clear e2 f2
      rw [hF1]
      refine V_istore_2 d_gr_readStatement_7 rfl ?_
      refine V_iload_1 d_gr_readStatement_8 ?_
      refine V_iload_2 d_gr_readStatement_9 ?_
      refine V_if_ne 17 d_gr_readStatement_10 (by decide) (by omega) (fun c10 => by omega) (fun c10 => ?_)
      refine V_iconst 1 d_gr_readStatement_13 ?_
      refine V_goto 18 d_gr_readStatement_14 (by decide) ?_
      refine V_icmp_eq 29 d_gr_readStatement_18 (by decide) (by omega) (by omega) (fun c18 => by omega) (fun c18 => ?_)
      exact K21 hr.symm _ _
    · skip
      refine V_aload_0 d_gr_readStatement_0 ?_
      refine V_getR d_gr_readStatement_1 fl_gr_9 is_gr r_gr_tape ?_
      refine V_cvI0 d_gr_readStatement_4 ml_gr_69 mv_tp_wordHere (by decide) (Nat.le_of_ble_eq_true rfl) is_tp (ok_wordHere hC.1) ?_
      rintro _ f2 ⟨rfl, e2⟩
      rw [e2]; clear e2 f2
      rw [hF1]
      refine V_istore_2 d_gr_readStatement_7 rfl ?_
      refine V_iload_1 d_gr_readStatement_8 ?_
      refine V_iload_2 d_gr_readStatement_9 ?_
      refine V_if_ne 17 d_gr_readStatement_10 (by decide) (by omega) (fun c10 => ?_) (fun c10 => by omega)
      refine V_iconst 0 d_gr_readStatement_17 ?_
      refine V_icmp_eq 29 d_gr_readStatement_18 (by decide) (by omega) (by omega) (fun c18 => ?_) (fun c18 => by omega)
      refine V_iload_2 d_gr_readStatement_29 ?_
      generalize hw : wd T N p e = w at *
      refine V_tsw 289 d_gr_readStatement_30 (by decide) (by omega) (fun c30 => ?_) (fun c30 => ?_)
      · skip
        refine bfail (Or.inr trivial) ?_ _ _
        rw [if_neg (by omega), if_neg (by omega), if_neg (by omega), if_neg (by omega), if_neg (by omega), if_neg (by omega), if_neg (by omega)] at hr
        exact hr.symm
      · rcases (show w = 0 ∨ w = 1 ∨ w = 2 ∨ w = 3 ∨ w = 4 ∨ w = 5 ∨ w = 6 ∨ w = 7 ∨ w = 8 ∨ w = 9 ∨ w = 10 ∨ w = 11 ∨ w = 12 ∨ w = 13 ∨ w = 14 ∨ w = 15 by omega) with rfl | rfl | rfl | rfl | rfl | rfl | rfl | rfl | rfl | rfl | rfl | rfl | rfl | rfl | rfl | rfl
        · refine V_tsi 108 d_gr_readStatement_30 (by decide) (by decide) rfl (by decide) ?_
          exact absurd rfl h0
        · refine V_tsi 131 d_gr_readStatement_30 (by decide) (by decide) rfl (by decide) ?_
          exact K131 rfl (by simpa using hr) _
        · refine V_tsi 152 d_gr_readStatement_30 (by decide) (by decide) rfl (by decide) ?_
          exact K152 rfl (by simpa using hr) _
        · refine V_tsi 289 d_gr_readStatement_30 (by decide) (by decide) rfl (by decide) ?_
          exact bfail (Or.inr trivial) (by simpa using hr.symm) _ _
        · refine V_tsi 289 d_gr_readStatement_30 (by decide) (by decide) rfl (by decide) ?_
          exact bfail (Or.inr trivial) (by simpa using hr.symm) _ _
        · refine V_tsi 173 d_gr_readStatement_30 (by decide) (by decide) rfl (by decide) ?_
          exact K173 rfl (by simpa using hr) _
        · refine V_tsi 195 d_gr_readStatement_30 (by decide) (by decide) rfl (by decide) ?_
          exact K195 rfl (by simpa using hr) _
        · refine V_tsi 217 d_gr_readStatement_30 (by decide) (by decide) rfl (by decide) ?_
          exact K217 rfl (by simpa using hr) _
        · refine V_tsi 289 d_gr_readStatement_30 (by decide) (by decide) rfl (by decide) ?_
          exact bfail (Or.inr trivial) (by simpa using hr.symm) _ _
        · refine V_tsi 289 d_gr_readStatement_30 (by decide) (by decide) rfl (by decide) ?_
          exact bfail (Or.inr trivial) (by simpa using hr.symm) _ _
        · refine V_tsi 289 d_gr_readStatement_30 (by decide) (by decide) rfl (by decide) ?_
          exact bfail (Or.inr trivial) (by simpa using hr.symm) _ _
        · refine V_tsi 289 d_gr_readStatement_30 (by decide) (by decide) rfl (by decide) ?_
          exact bfail (Or.inr trivial) (by simpa using hr.symm) _ _
        · refine V_tsi 289 d_gr_readStatement_30 (by decide) (by decide) rfl (by decide) ?_
          exact bfail (Or.inr trivial) (by simpa using hr.symm) _ _
        · refine V_tsi 238 d_gr_readStatement_30 (by decide) (by decide) rfl (by decide) ?_
          exact K238 rfl (by simpa using hr) _
        · refine V_tsi 289 d_gr_readStatement_30 (by decide) (by decide) rfl (by decide) ?_
          exact bfail (Or.inr trivial) (by simpa using hr.symm) _ _
        · refine V_tsi 266 d_gr_readStatement_30 (by decide) (by decide) rfl (by decide) ?_
          exact K266 rfl (by simpa using hr) _
end STM8
