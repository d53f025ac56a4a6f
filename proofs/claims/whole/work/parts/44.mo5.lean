/-! the reference: crowd, shade, letter -/
section MO5
variable {D : q_D} {f : q_F} {A : q_As} {g h : Int}
theorem mB_bt (p : Int → Bool) {i : Int} (h : 0 ≤ i ∧ i < 31) : q_and (q_shr (mB p) i) 1 = 0 ↔ p i = false := by
  rw [mB_bit p h]; cases p i <;> simp
theorem mB_bf (p : Int → Bool) {i : Int} (h : 0 ≤ i ∧ i < 31) : ¬ q_and (q_shr (mB p) i) 1 = 0 ↔ p i = true := by
  rw [mB_bit p h]; cases p i <;> simp
theorem mo_shade (hS : Mst f A) (hF : Wf A) {sh w : Int} (hh : -2147483648 ≤ sh ∧ sh < 2147483648) (hw : -2147483648 ≤ w ∧ w < 2147483648) : OkI D m_mo_shade [vr D 219, vi sh, vi w] (Zg g h) f (fun x f' => x = S_shade A sh w ∧ f' = f) := by
  have hn := hF.nn
  obtain ⟨hG, hH, hT⟩ := hS
  have hfs := first_ok hF.1 (held A sh)
  have hls := last_ok hF.1 (held A sh)
  refine OkI_of (L0 := [vr D 219, vi sh, vi w, vu, vu, vu, vu, vu, vu]) mi_mo_shade rfl rfl (Nat.le_of_ble_eq_true rfl) (fun C hR => ?_)
  have loop : ∀ (m : Nat) (i a b c d : Int), (0 ≤ sh ∧ sh < A 0 2 0) → i + m = A 0 4 0 → 0 ≤ i → (-1 ≤ b ∧ b < A 0 4 0) → (-1 ≤ c ∧ c < A 0 4 0) → (-1 ≤ d ∧ d ≤ 1000) → prN A sh (held A sh) m i a = prN A sh (held A sh) (A 0 4 0).toNat 0 0 → fsN A (held A sh) m i b = first A (held A sh) → ltN A (held A sh) m i c = last A (held A sh) → lpN A sh (held A sh) m i d = lpN A sh (held A sh) (A 0 4 0).toNat 0 (-1) → V D C m_mo_shade 31 [vr D 219, vi sh, vi w, vi (mB (held A sh)), vi a, vi b, vi c, vi d, vi i] [] (Zg g h) f := by
    intro m
    induction m with
    | zero =>
      intro i a b c d hv hm h0 hb hc hd h1 h2 h3 h4
      generalize hT1 : prN A sh (held A sh) (A 0 4 0).toNat 0 0 = T1 at *
      generalize hT4 : lpN A sh (held A sh) (A 0 4 0).toNat 0 (-1) = T4 at *
      unfold prN at h1
      unfold fsN at h2
      unfold ltN at h3
      unfold lpN at h4
      subst h1 h4
      rw [← h2] at hfs
      rw [← h3] at hls
      refine V_iload_8 d_mo_shade_31 ?_
      refine V_aload_0 d_mo_shade_33 ?_
      refine V_cvI0 d_mo_shade_34 ml_mo_328 mv_mo_seenMany (by decide) (Nat.le_of_ble_eq_true rfl) is_mo (ok_seenMany hG) ?_
      rintro _ f2 ⟨rfl, e2⟩
      rw [e2]; clear e2 f2
      refine V_icmp_ge 162 d_mo_shade_37 (by decide) (by omega) (by omega) (fun c37 => ?_) (fun c37 => by omega)
      refine V_iload_2 d_mo_shade_162 ?_
      refine V_tsw 234 d_mo_shade_163 (by decide) (by omega) (fun c163 => ?_) (fun c163 => ?_)
      · skip
        refine V_iconst (-1) d_mo_shade_234 ?_
        refine V_ireturn d_mo_shade_235 (hR _ _ ?_)
        refine ⟨?_, rfl⟩
        unfold S_shade; rw [if_pos hv, if_neg (by omega), if_neg (by omega), if_neg (by omega), if_neg (by omega), if_neg (by omega)]
      · rcases (show w = 0 ∨ w = 1 ∨ w = 2 ∨ w = 3 ∨ w = 4 by omega) with rfl | rfl | rfl | rfl | rfl
        · refine V_tsi 196 d_mo_shade_163 (by decide) (by decide) rfl (by decide) ?_
          refine V_iload_3 d_mo_shade_196 ?_
          refine V_csI1 d_mo_shade_197 ml_mo_443 ms_mo_bits (by decide) (Nat.le_of_ble_eq_true rfl) (ok_bits) ?_
          rintro _ f2 ⟨rfl, e2⟩
          rw [e2]; clear e2 f2
          refine V_ireturn d_mo_shade_200 (hR _ _ ?_)
          refine ⟨?_, rfl⟩
          unfold S_shade; rw [if_pos hv]; rfl
        · refine V_tsi 201 d_mo_shade_163 (by decide) (by decide) rfl (by decide) ?_
          refine V_iload_4 d_mo_shade_201 ?_
          refine V_ireturn d_mo_shade_203 (hR _ _ ?_)
          refine ⟨?_, rfl⟩
          unfold S_shade; rw [if_pos hv, hT1]; rfl
        · refine V_tsi 204 d_mo_shade_163 (by decide) (by decide) rfl (by decide) ?_
          refine V_iload_5 d_mo_shade_204 ?_
          refine V_ireturn d_mo_shade_206 (hR _ _ ?_)
          refine ⟨?_, rfl⟩
          unfold S_shade; rw [if_pos hv, ← h2]; rfl
        · refine V_tsi 207 d_mo_shade_163 (by decide) (by decide) rfl (by decide) ?_
          refine V_iload_5 d_mo_shade_207 ?_
          refine V_iconst (-1) d_mo_shade_209 ?_
          refine V_icmp_ne 217 d_mo_shade_210 (by decide) (by omega) (by omega) (fun c210 => ?_) (fun c210 => ?_)
          · skip
            have hl : 0 ≤ c := by
              rcases hls with ⟨e, hno⟩ | hyes
              · rcases hfs with e2 | ⟨e2, e3, -⟩
                · omega
                · rw [hno b e2.1 e2.2] at e3; cases e3
              · exact hyes.1.1
            refine V_aload_0 d_mo_shade_217 ?_
            refine V_iload_6 d_mo_shade_218 ?_
            refine V_cvI1 d_mo_shade_220 ml_mo_334 mv_mo_hourOf (by decide) (Nat.le_of_ble_eq_true rfl) is_mo (ok_hourOf hG hF.1 hl hc.2) ?_
            rintro _ f2 ⟨rfl, e2⟩
            rw [e2]; clear e2 f2
            refine V_aload_0 d_mo_shade_223 ?_
            refine V_iload_5 d_mo_shade_224 ?_
            refine V_cvI1 d_mo_shade_226 ml_mo_334 mv_mo_hourOf (by decide) (Nat.le_of_ble_eq_true rfl) is_mo (ok_hourOf hG hF.1 (by omega) hb.2) ?_
            rintro _ f2 ⟨rfl, e2⟩
            rw [e2]; clear e2 f2
            refine V_isub d_mo_shade_229 ?_
            refine V_ireturn d_mo_shade_230 (hR _ _ ?_)
            refine ⟨?_, rfl⟩
            unfold S_shade; rw [if_pos hv, if_neg (by omega), if_neg (by omega), if_neg (by omega), if_pos rfl]
            unfold along; rw [← h2, ← h3, if_neg c210]
          · skip
            refine V_iconst 0 d_mo_shade_213 ?_
            refine V_goto 230 d_mo_shade_214 (by decide) ?_
            refine V_ireturn d_mo_shade_230 (hR _ _ ?_)
            refine ⟨?_, rfl⟩
            unfold S_shade; rw [if_pos hv, if_neg (by omega), if_neg (by omega), if_neg (by omega), if_pos rfl]
            unfold along; rw [← h2, if_pos (by omega)]
        · refine V_tsi 231 d_mo_shade_163 (by decide) (by decide) rfl (by decide) ?_
          refine V_iload_7 d_mo_shade_231 ?_
          refine V_ireturn d_mo_shade_233 (hR _ _ ?_)
          refine ⟨?_, rfl⟩
          unfold S_shade; rw [if_pos hv, hT4]; rfl
    | succ m ih =>
      intro i a b c d hv hm h0 hb hc hd h1 h2 h3 h4
      obtain ⟨⟨e8, e9⟩, b8, b9⟩ := hG.pp hF.1 hv (s := i) (by omega)
      have bi := (hG.sg hF.1 h0 (by omega)).2.2.2.1
      unfold fsN at h2
      unfold ltN at h3
      generalize hT1 : prN A sh (held A sh) (A 0 4 0).toNat 0 0 = T1 at *
      generalize hT4 : lpN A sh (held A sh) (A 0 4 0).toNat 0 (-1) = T4 at *
      unfold prN at h1
      unfold lpN at h4
      refine V_iload_8 d_mo_shade_31 ?_
      refine V_aload_0 d_mo_shade_33 ?_
      refine V_cvI0 d_mo_shade_34 ml_mo_328 mv_mo_seenMany (by decide) (Nat.le_of_ble_eq_true rfl) is_mo (ok_seenMany hG) ?_
      rintro _ f2 ⟨rfl, e2⟩
      rw [e2]; clear e2 f2
      refine V_icmp_ge 162 d_mo_shade_37 (by decide) (by omega) (by omega) (fun c37 => by omega) (fun c37 => ?_)
      refine V_iload_3 d_mo_shade_40 ?_
      refine V_iload_8 d_mo_shade_41 ?_
      refine V_ishr d_mo_shade_43 ?_
      refine V_iconst 1 d_mo_shade_44 ?_
      refine V_iand d_mo_shade_45 ?_
      refine V_if_ne 52 d_mo_shade_46 (by decide) (mB_shrrg _ _) (fun c46 => ?_) (fun c46 => ?_)
      · skip
        rw [mB_bf _ (by omega)] at c46
        rw [if_pos c46] at h1
        refine V_iload_4 d_mo_shade_52 ?_
        refine V_aload_0 d_mo_shade_54 ?_
        refine V_getR d_mo_shade_55 fl_mo_145 is_mo r_mo_priceOf ?_
        refine V_bipush 24 d_mo_shade_58 (by decide) ?_
        refine V_iload_1 d_mo_shade_60 ?_
        refine V_imul d_mo_shade_61 ?_
        refine V_iload_8 d_mo_shade_62 ?_
        refine V_iadd d_mo_shade_64 ?_
        refine V_iald d_mo_shade_65 is_mo_priceOf (by omega) (by omega) ?_
        rw [e9]
        refine V_iadd d_mo_shade_66 ?_
        refine V_istore_4 d_mo_shade_67 rfl ?_
        refine V_iload_5 d_mo_shade_69 ?_
        refine V_iconst (-1) d_mo_shade_71 ?_
        refine V_icmp_eq 90 d_mo_shade_72 (by decide) (by omega) (by omega) (fun c72 => ?_) (fun c72 => ?_)
        · skip
          rw [if_pos ⟨c46, Or.inl c72⟩] at h2
          refine V_iload_8 d_mo_shade_90 ?_
          refine V_istore_5 d_mo_shade_92 rfl ?_
          refine V_iload_6 d_mo_shade_94 ?_
          refine V_iconst (-1) d_mo_shade_96 ?_
          refine V_icmp_eq 115 d_mo_shade_97 (by decide) (by omega) (by omega) (fun c97 => ?_) (fun c97 => ?_)
          · skip
            rw [if_pos ⟨c46, Or.inl c97⟩] at h3
            refine V_iload_8 d_mo_shade_115 ?_
            refine V_istore_6 d_mo_shade_117 rfl ?_
            refine V_iload_7 d_mo_shade_119 ?_
            refine V_iconst (-1) d_mo_shade_121 ?_
            refine V_icmp_eq 142 d_mo_shade_122 (by decide) (by omega) (by omega) (fun c122 => ?_) (fun c122 => ?_)
            · skip
              rw [if_pos ⟨c46, Or.inl c122⟩] at h4
              refine V_aload_0 d_mo_shade_142 ?_
              refine V_getR d_mo_shade_143 fl_mo_142 is_mo r_mo_passOf ?_
              refine V_bipush 24 d_mo_shade_146 (by decide) ?_
              refine V_iload_1 d_mo_shade_148 ?_
              refine V_imul d_mo_shade_149 ?_
              refine V_iload_8 d_mo_shade_150 ?_
              refine V_iadd d_mo_shade_152 ?_
              refine V_iald d_mo_shade_153 is_mo_passOf (by omega) (by omega) ?_
              rw [e8]
              refine V_istore_7 d_mo_shade_154 rfl ?_
              refine V_iinc_8 d_mo_shade_156 rfl ?_
              refine V_goto 31 d_mo_shade_159 (by decide) ?_
              exact ih _ _ _ _ _ hv (by omega) (by omega) (by omega) (by omega) (by omega) h1 h2 h3 h4
            · skip
              refine V_aload_0 d_mo_shade_125 ?_
              refine V_getR d_mo_shade_126 fl_mo_142 is_mo r_mo_passOf ?_
              refine V_bipush 24 d_mo_shade_129 (by decide) ?_
              refine V_iload_1 d_mo_shade_131 ?_
              refine V_imul d_mo_shade_132 ?_
              refine V_iload_8 d_mo_shade_133 ?_
              refine V_iadd d_mo_shade_135 ?_
              refine V_iald d_mo_shade_136 is_mo_passOf (by omega) (by omega) ?_
              rw [e8]
              refine V_iload_7 d_mo_shade_137 ?_
              refine V_icmp_ge 156 d_mo_shade_139 (by decide) (by omega) (by omega) (fun c139 => ?_) (fun c139 => ?_)
              · skip
                rw [if_neg (by omega)] at h4
                refine V_iinc_8 d_mo_shade_156 rfl ?_
                refine V_goto 31 d_mo_shade_159 (by decide) ?_
                exact ih _ _ _ _ _ hv (by omega) (by omega) (by omega) (by omega) (by omega) h1 h2 h3 h4
              · skip
                rw [if_pos ⟨c46, Or.inr (by omega)⟩] at h4
                refine V_aload_0 d_mo_shade_142 ?_
                refine V_getR d_mo_shade_143 fl_mo_142 is_mo r_mo_passOf ?_
                refine V_bipush 24 d_mo_shade_146 (by decide) ?_
                refine V_iload_1 d_mo_shade_148 ?_
                refine V_imul d_mo_shade_149 ?_
                refine V_iload_8 d_mo_shade_150 ?_
                refine V_iadd d_mo_shade_152 ?_
                refine V_iald d_mo_shade_153 is_mo_passOf (by omega) (by omega) ?_
                rw [e8]
                refine V_istore_7 d_mo_shade_154 rfl ?_
                refine V_iinc_8 d_mo_shade_156 rfl ?_
                refine V_goto 31 d_mo_shade_159 (by decide) ?_
                exact ih _ _ _ _ _ hv (by omega) (by omega) (by omega) (by omega) (by omega) h1 h2 h3 h4
          · skip
            have bc := (hG.sg hF.1 (s := c) (by omega) (by omega)).2.2.2.1
            refine V_aload_0 d_mo_shade_100 ?_
            refine V_iload_8 d_mo_shade_101 ?_
            refine V_cvI1 d_mo_shade_103 ml_mo_334 mv_mo_hourOf (by decide) (Nat.le_of_ble_eq_true rfl) is_mo (ok_hourOf hG hF.1 h0 (by omega)) ?_
            rintro _ f2 ⟨rfl, e2⟩
            rw [e2]; clear e2 f2
            refine V_aload_0 d_mo_shade_106 ?_
            refine V_iload_6 d_mo_shade_107 ?_
            refine V_cvI1 d_mo_shade_109 ml_mo_334 mv_mo_hourOf (by decide) (Nat.le_of_ble_eq_true rfl) is_mo (ok_hourOf hG hF.1 (by omega) (by omega)) ?_
            rintro _ f2 ⟨rfl, e2⟩
            rw [e2]; clear e2 f2
            refine V_icmp_le 119 d_mo_shade_112 (by decide) (by omega) (by omega) (fun c112 => ?_) (fun c112 => ?_)
            · skip
              rw [if_neg (by omega)] at h3
              refine V_iload_7 d_mo_shade_119 ?_
              refine V_iconst (-1) d_mo_shade_121 ?_
              refine V_icmp_eq 142 d_mo_shade_122 (by decide) (by omega) (by omega) (fun c122 => ?_) (fun c122 => ?_)
              · skip
                rw [if_pos ⟨c46, Or.inl c122⟩] at h4
                refine V_aload_0 d_mo_shade_142 ?_
                refine V_getR d_mo_shade_143 fl_mo_142 is_mo r_mo_passOf ?_
                refine V_bipush 24 d_mo_shade_146 (by decide) ?_
                refine V_iload_1 d_mo_shade_148 ?_
                refine V_imul d_mo_shade_149 ?_
                refine V_iload_8 d_mo_shade_150 ?_
                refine V_iadd d_mo_shade_152 ?_
                refine V_iald d_mo_shade_153 is_mo_passOf (by omega) (by omega) ?_
                rw [e8]
                refine V_istore_7 d_mo_shade_154 rfl ?_
                refine V_iinc_8 d_mo_shade_156 rfl ?_
                refine V_goto 31 d_mo_shade_159 (by decide) ?_
                exact ih _ _ _ _ _ hv (by omega) (by omega) (by omega) (by omega) (by omega) h1 h2 h3 h4
              · skip
                refine V_aload_0 d_mo_shade_125 ?_
                refine V_getR d_mo_shade_126 fl_mo_142 is_mo r_mo_passOf ?_
                refine V_bipush 24 d_mo_shade_129 (by decide) ?_
                refine V_iload_1 d_mo_shade_131 ?_
                refine V_imul d_mo_shade_132 ?_
                refine V_iload_8 d_mo_shade_133 ?_
                refine V_iadd d_mo_shade_135 ?_
                refine V_iald d_mo_shade_136 is_mo_passOf (by omega) (by omega) ?_
                rw [e8]
                refine V_iload_7 d_mo_shade_137 ?_
                refine V_icmp_ge 156 d_mo_shade_139 (by decide) (by omega) (by omega) (fun c139 => ?_) (fun c139 => ?_)
                · skip
                  rw [if_neg (by omega)] at h4
                  refine V_iinc_8 d_mo_shade_156 rfl ?_
                  refine V_goto 31 d_mo_shade_159 (by decide) ?_
                  exact ih _ _ _ _ _ hv (by omega) (by omega) (by omega) (by omega) (by omega) h1 h2 h3 h4
                · skip
                  rw [if_pos ⟨c46, Or.inr (by omega)⟩] at h4
                  refine V_aload_0 d_mo_shade_142 ?_
                  refine V_getR d_mo_shade_143 fl_mo_142 is_mo r_mo_passOf ?_
                  refine V_bipush 24 d_mo_shade_146 (by decide) ?_
                  refine V_iload_1 d_mo_shade_148 ?_
                  refine V_imul d_mo_shade_149 ?_
                  refine V_iload_8 d_mo_shade_150 ?_
                  refine V_iadd d_mo_shade_152 ?_
                  refine V_iald d_mo_shade_153 is_mo_passOf (by omega) (by omega) ?_
                  rw [e8]
                  refine V_istore_7 d_mo_shade_154 rfl ?_
                  refine V_iinc_8 d_mo_shade_156 rfl ?_
                  refine V_goto 31 d_mo_shade_159 (by decide) ?_
                  exact ih _ _ _ _ _ hv (by omega) (by omega) (by omega) (by omega) (by omega) h1 h2 h3 h4
            · skip
              rw [if_pos ⟨c46, Or.inr (by omega)⟩] at h3
              refine V_iload_8 d_mo_shade_115 ?_
              refine V_istore_6 d_mo_shade_117 rfl ?_
              refine V_iload_7 d_mo_shade_119 ?_
              refine V_iconst (-1) d_mo_shade_121 ?_
              refine V_icmp_eq 142 d_mo_shade_122 (by decide) (by omega) (by omega) (fun c122 => ?_) (fun c122 => ?_)
              · skip
                rw [if_pos ⟨c46, Or.inl c122⟩] at h4
                refine V_aload_0 d_mo_shade_142 ?_
                refine V_getR d_mo_shade_143 fl_mo_142 is_mo r_mo_passOf ?_
                refine V_bipush 24 d_mo_shade_146 (by decide) ?_
                refine V_iload_1 d_mo_shade_148 ?_
                refine V_imul d_mo_shade_149 ?_
                refine V_iload_8 d_mo_shade_150 ?_
                refine V_iadd d_mo_shade_152 ?_
                refine V_iald d_mo_shade_153 is_mo_passOf (by omega) (by omega) ?_
                rw [e8]
                refine V_istore_7 d_mo_shade_154 rfl ?_
                refine V_iinc_8 d_mo_shade_156 rfl ?_
                refine V_goto 31 d_mo_shade_159 (by decide) ?_
                exact ih _ _ _ _ _ hv (by omega) (by omega) (by omega) (by omega) (by omega) h1 h2 h3 h4
              · skip
                refine V_aload_0 d_mo_shade_125 ?_
                refine V_getR d_mo_shade_126 fl_mo_142 is_mo r_mo_passOf ?_
                refine V_bipush 24 d_mo_shade_129 (by decide) ?_
                refine V_iload_1 d_mo_shade_131 ?_
                refine V_imul d_mo_shade_132 ?_
                refine V_iload_8 d_mo_shade_133 ?_
                refine V_iadd d_mo_shade_135 ?_
                refine V_iald d_mo_shade_136 is_mo_passOf (by omega) (by omega) ?_
                rw [e8]
                refine V_iload_7 d_mo_shade_137 ?_
                refine V_icmp_ge 156 d_mo_shade_139 (by decide) (by omega) (by omega) (fun c139 => ?_) (fun c139 => ?_)
                · skip
                  rw [if_neg (by omega)] at h4
                  refine V_iinc_8 d_mo_shade_156 rfl ?_
                  refine V_goto 31 d_mo_shade_159 (by decide) ?_
                  exact ih _ _ _ _ _ hv (by omega) (by omega) (by omega) (by omega) (by omega) h1 h2 h3 h4
                · skip
                  rw [if_pos ⟨c46, Or.inr (by omega)⟩] at h4
                  refine V_aload_0 d_mo_shade_142 ?_
                  refine V_getR d_mo_shade_143 fl_mo_142 is_mo r_mo_passOf ?_
                  refine V_bipush 24 d_mo_shade_146 (by decide) ?_
                  refine V_iload_1 d_mo_shade_148 ?_
                  refine V_imul d_mo_shade_149 ?_
                  refine V_iload_8 d_mo_shade_150 ?_
                  refine V_iadd d_mo_shade_152 ?_
                  refine V_iald d_mo_shade_153 is_mo_passOf (by omega) (by omega) ?_
                  rw [e8]
                  refine V_istore_7 d_mo_shade_154 rfl ?_
                  refine V_iinc_8 d_mo_shade_156 rfl ?_
                  refine V_goto 31 d_mo_shade_159 (by decide) ?_
                  exact ih _ _ _ _ _ hv (by omega) (by omega) (by omega) (by omega) (by omega) h1 h2 h3 h4
        · skip
          have bb := (hG.sg hF.1 (s := b) (by omega) (by omega)).2.2.2.1
          refine V_aload_0 d_mo_shade_75 ?_
          refine V_iload_8 d_mo_shade_76 ?_
          refine V_cvI1 d_mo_shade_78 ml_mo_334 mv_mo_hourOf (by decide) (Nat.le_of_ble_eq_true rfl) is_mo (ok_hourOf hG hF.1 h0 (by omega)) ?_
          rintro _ f2 ⟨rfl, e2⟩
          rw [e2]; clear e2 f2
          refine V_aload_0 d_mo_shade_81 ?_
          refine V_iload_5 d_mo_shade_82 ?_
          refine V_cvI1 d_mo_shade_84 ml_mo_334 mv_mo_hourOf (by decide) (Nat.le_of_ble_eq_true rfl) is_mo (ok_hourOf hG hF.1 (by omega) (by omega)) ?_
          rintro _ f2 ⟨rfl, e2⟩
          rw [e2]; clear e2 f2
          refine V_icmp_ge 94 d_mo_shade_87 (by decide) (by omega) (by omega) (fun c87 => ?_) (fun c87 => ?_)
          · skip
            rw [if_neg (by omega)] at h2
            refine V_iload_6 d_mo_shade_94 ?_
            refine V_iconst (-1) d_mo_shade_96 ?_
            refine V_icmp_eq 115 d_mo_shade_97 (by decide) (by omega) (by omega) (fun c97 => ?_) (fun c97 => ?_)
            · skip
              rw [if_pos ⟨c46, Or.inl c97⟩] at h3
              refine V_iload_8 d_mo_shade_115 ?_
              refine V_istore_6 d_mo_shade_117 rfl ?_
              refine V_iload_7 d_mo_shade_119 ?_
              refine V_iconst (-1) d_mo_shade_121 ?_
              refine V_icmp_eq 142 d_mo_shade_122 (by decide) (by omega) (by omega) (fun c122 => ?_) (fun c122 => ?_)
              · skip
                rw [if_pos ⟨c46, Or.inl c122⟩] at h4
                refine V_aload_0 d_mo_shade_142 ?_
                refine V_getR d_mo_shade_143 fl_mo_142 is_mo r_mo_passOf ?_
                refine V_bipush 24 d_mo_shade_146 (by decide) ?_
                refine V_iload_1 d_mo_shade_148 ?_
                refine V_imul d_mo_shade_149 ?_
                refine V_iload_8 d_mo_shade_150 ?_
                refine V_iadd d_mo_shade_152 ?_
                refine V_iald d_mo_shade_153 is_mo_passOf (by omega) (by omega) ?_
                rw [e8]
                refine V_istore_7 d_mo_shade_154 rfl ?_
                refine V_iinc_8 d_mo_shade_156 rfl ?_
                refine V_goto 31 d_mo_shade_159 (by decide) ?_
                exact ih _ _ _ _ _ hv (by omega) (by omega) (by omega) (by omega) (by omega) h1 h2 h3 h4
              · skip
                refine V_aload_0 d_mo_shade_125 ?_
                refine V_getR d_mo_shade_126 fl_mo_142 is_mo r_mo_passOf ?_
                refine V_bipush 24 d_mo_shade_129 (by decide) ?_
                refine V_iload_1 d_mo_shade_131 ?_
                refine V_imul d_mo_shade_132 ?_
                refine V_iload_8 d_mo_shade_133 ?_
                refine V_iadd d_mo_shade_135 ?_
                refine V_iald d_mo_shade_136 is_mo_passOf (by omega) (by omega) ?_
                rw [e8]
                refine V_iload_7 d_mo_shade_137 ?_
                refine V_icmp_ge 156 d_mo_shade_139 (by decide) (by omega) (by omega) (fun c139 => ?_) (fun c139 => ?_)
                · skip
                  rw [if_neg (by omega)] at h4
                  refine V_iinc_8 d_mo_shade_156 rfl ?_
                  refine V_goto 31 d_mo_shade_159 (by decide) ?_
                  exact ih _ _ _ _ _ hv (by omega) (by omega) (by omega) (by omega) (by omega) h1 h2 h3 h4
                · skip
                  rw [if_pos ⟨c46, Or.inr (by omega)⟩] at h4
                  refine V_aload_0 d_mo_shade_142 ?_
                  refine V_getR d_mo_shade_143 fl_mo_142 is_mo r_mo_passOf ?_
                  refine V_bipush 24 d_mo_shade_146 (by decide) ?_
                  refine V_iload_1 d_mo_shade_148 ?_
                  refine V_imul d_mo_shade_149 ?_
                  refine V_iload_8 d_mo_shade_150 ?_
                  refine V_iadd d_mo_shade_152 ?_
                  refine V_iald d_mo_shade_153 is_mo_passOf (by omega) (by omega) ?_
                  rw [e8]
                  refine V_istore_7 d_mo_shade_154 rfl ?_
                  refine V_iinc_8 d_mo_shade_156 rfl ?_
                  refine V_goto 31 d_mo_shade_159 (by decide) ?_
                  exact ih _ _ _ _ _ hv (by omega) (by omega) (by omega) (by omega) (by omega) h1 h2 h3 h4
            · skip
              have bc := (hG.sg hF.1 (s := c) (by omega) (by omega)).2.2.2.1
              refine V_aload_0 d_mo_shade_100 ?_
              refine V_iload_8 d_mo_shade_101 ?_
              refine V_cvI1 d_mo_shade_103 ml_mo_334 mv_mo_hourOf (by decide) (Nat.le_of_ble_eq_true rfl) is_mo (ok_hourOf hG hF.1 h0 (by omega)) ?_
              rintro _ f2 ⟨rfl, e2⟩
              rw [e2]; clear e2 f2
              refine V_aload_0 d_mo_shade_106 ?_
              refine V_iload_6 d_mo_shade_107 ?_
              refine V_cvI1 d_mo_shade_109 ml_mo_334 mv_mo_hourOf (by decide) (Nat.le_of_ble_eq_true rfl) is_mo (ok_hourOf hG hF.1 (by omega) (by omega)) ?_
              rintro _ f2 ⟨rfl, e2⟩
              rw [e2]; clear e2 f2
              refine V_icmp_le 119 d_mo_shade_112 (by decide) (by omega) (by omega) (fun c112 => ?_) (fun c112 => ?_)
              · skip
                rw [if_neg (by omega)] at h3
                refine V_iload_7 d_mo_shade_119 ?_
                refine V_iconst (-1) d_mo_shade_121 ?_
                refine V_icmp_eq 142 d_mo_shade_122 (by decide) (by omega) (by omega) (fun c122 => ?_) (fun c122 => ?_)
                · skip
                  rw [if_pos ⟨c46, Or.inl c122⟩] at h4
                  refine V_aload_0 d_mo_shade_142 ?_
                  refine V_getR d_mo_shade_143 fl_mo_142 is_mo r_mo_passOf ?_
                  refine V_bipush 24 d_mo_shade_146 (by decide) ?_
                  refine V_iload_1 d_mo_shade_148 ?_
                  refine V_imul d_mo_shade_149 ?_
                  refine V_iload_8 d_mo_shade_150 ?_
                  refine V_iadd d_mo_shade_152 ?_
                  refine V_iald d_mo_shade_153 is_mo_passOf (by omega) (by omega) ?_
                  rw [e8]
                  refine V_istore_7 d_mo_shade_154 rfl ?_
                  refine V_iinc_8 d_mo_shade_156 rfl ?_
                  refine V_goto 31 d_mo_shade_159 (by decide) ?_
                  exact ih _ _ _ _ _ hv (by omega) (by omega) (by omega) (by omega) (by omega) h1 h2 h3 h4
                · skip
                  refine V_aload_0 d_mo_shade_125 ?_
                  refine V_getR d_mo_shade_126 fl_mo_142 is_mo r_mo_passOf ?_
                  refine V_bipush 24 d_mo_shade_129 (by decide) ?_
                  refine V_iload_1 d_mo_shade_131 ?_
                  refine V_imul d_mo_shade_132 ?_
                  refine V_iload_8 d_mo_shade_133 ?_
                  refine V_iadd d_mo_shade_135 ?_
                  refine V_iald d_mo_shade_136 is_mo_passOf (by omega) (by omega) ?_
                  rw [e8]
                  refine V_iload_7 d_mo_shade_137 ?_
                  refine V_icmp_ge 156 d_mo_shade_139 (by decide) (by omega) (by omega) (fun c139 => ?_) (fun c139 => ?_)
                  · skip
                    rw [if_neg (by omega)] at h4
                    refine V_iinc_8 d_mo_shade_156 rfl ?_
                    refine V_goto 31 d_mo_shade_159 (by decide) ?_
                    exact ih _ _ _ _ _ hv (by omega) (by omega) (by omega) (by omega) (by omega) h1 h2 h3 h4
                  · skip
                    rw [if_pos ⟨c46, Or.inr (by omega)⟩] at h4
                    refine V_aload_0 d_mo_shade_142 ?_
                    refine V_getR d_mo_shade_143 fl_mo_142 is_mo r_mo_passOf ?_
                    refine V_bipush 24 d_mo_shade_146 (by decide) ?_
                    refine V_iload_1 d_mo_shade_148 ?_
                    refine V_imul d_mo_shade_149 ?_
                    refine V_iload_8 d_mo_shade_150 ?_
                    refine V_iadd d_mo_shade_152 ?_
                    refine V_iald d_mo_shade_153 is_mo_passOf (by omega) (by omega) ?_
                    rw [e8]
                    refine V_istore_7 d_mo_shade_154 rfl ?_
                    refine V_iinc_8 d_mo_shade_156 rfl ?_
                    refine V_goto 31 d_mo_shade_159 (by decide) ?_
                    exact ih _ _ _ _ _ hv (by omega) (by omega) (by omega) (by omega) (by omega) h1 h2 h3 h4
              · skip
                rw [if_pos ⟨c46, Or.inr (by omega)⟩] at h3
                refine V_iload_8 d_mo_shade_115 ?_
                refine V_istore_6 d_mo_shade_117 rfl ?_
                refine V_iload_7 d_mo_shade_119 ?_
                refine V_iconst (-1) d_mo_shade_121 ?_
                refine V_icmp_eq 142 d_mo_shade_122 (by decide) (by omega) (by omega) (fun c122 => ?_) (fun c122 => ?_)
                · skip
                  rw [if_pos ⟨c46, Or.inl c122⟩] at h4
                  refine V_aload_0 d_mo_shade_142 ?_
                  refine V_getR d_mo_shade_143 fl_mo_142 is_mo r_mo_passOf ?_
                  refine V_bipush 24 d_mo_shade_146 (by decide) ?_
                  refine V_iload_1 d_mo_shade_148 ?_
                  refine V_imul d_mo_shade_149 ?_
                  refine V_iload_8 d_mo_shade_150 ?_
                  refine V_iadd d_mo_shade_152 ?_
                  refine V_iald d_mo_shade_153 is_mo_passOf (by omega) (by omega) ?_
                  rw [e8]
                  refine V_istore_7 d_mo_shade_154 rfl ?_
                  refine V_iinc_8 d_mo_shade_156 rfl ?_
                  refine V_goto 31 d_mo_shade_159 (by decide) ?_
                  exact ih _ _ _ _ _ hv (by omega) (by omega) (by omega) (by omega) (by omega) h1 h2 h3 h4
                · skip
                  refine V_aload_0 d_mo_shade_125 ?_
                  refine V_getR d_mo_shade_126 fl_mo_142 is_mo r_mo_passOf ?_
                  refine V_bipush 24 d_mo_shade_129 (by decide) ?_
                  refine V_iload_1 d_mo_shade_131 ?_
                  refine V_imul d_mo_shade_132 ?_
                  refine V_iload_8 d_mo_shade_133 ?_
                  refine V_iadd d_mo_shade_135 ?_
                  refine V_iald d_mo_shade_136 is_mo_passOf (by omega) (by omega) ?_
                  rw [e8]
                  refine V_iload_7 d_mo_shade_137 ?_
                  refine V_icmp_ge 156 d_mo_shade_139 (by decide) (by omega) (by omega) (fun c139 => ?_) (fun c139 => ?_)
                  · skip
                    rw [if_neg (by omega)] at h4
                    refine V_iinc_8 d_mo_shade_156 rfl ?_
                    refine V_goto 31 d_mo_shade_159 (by decide) ?_
                    exact ih _ _ _ _ _ hv (by omega) (by omega) (by omega) (by omega) (by omega) h1 h2 h3 h4
                  · skip
                    rw [if_pos ⟨c46, Or.inr (by omega)⟩] at h4
                    refine V_aload_0 d_mo_shade_142 ?_
                    refine V_getR d_mo_shade_143 fl_mo_142 is_mo r_mo_passOf ?_
                    refine V_bipush 24 d_mo_shade_146 (by decide) ?_
                    refine V_iload_1 d_mo_shade_148 ?_
                    refine V_imul d_mo_shade_149 ?_
                    refine V_iload_8 d_mo_shade_150 ?_
                    refine V_iadd d_mo_shade_152 ?_
                    refine V_iald d_mo_shade_153 is_mo_passOf (by omega) (by omega) ?_
                    rw [e8]
                    refine V_istore_7 d_mo_shade_154 rfl ?_
                    refine V_iinc_8 d_mo_shade_156 rfl ?_
                    refine V_goto 31 d_mo_shade_159 (by decide) ?_
                    exact ih _ _ _ _ _ hv (by omega) (by omega) (by omega) (by omega) (by omega) h1 h2 h3 h4
          · skip
            rw [if_pos ⟨c46, Or.inr (by omega)⟩] at h2
            refine V_iload_8 d_mo_shade_90 ?_
            refine V_istore_5 d_mo_shade_92 rfl ?_
            refine V_iload_6 d_mo_shade_94 ?_
            refine V_iconst (-1) d_mo_shade_96 ?_
            refine V_icmp_eq 115 d_mo_shade_97 (by decide) (by omega) (by omega) (fun c97 => ?_) (fun c97 => ?_)
            · skip
              rw [if_pos ⟨c46, Or.inl c97⟩] at h3
              refine V_iload_8 d_mo_shade_115 ?_
              refine V_istore_6 d_mo_shade_117 rfl ?_
              refine V_iload_7 d_mo_shade_119 ?_
              refine V_iconst (-1) d_mo_shade_121 ?_
              refine V_icmp_eq 142 d_mo_shade_122 (by decide) (by omega) (by omega) (fun c122 => ?_) (fun c122 => ?_)
              · skip
                rw [if_pos ⟨c46, Or.inl c122⟩] at h4
                refine V_aload_0 d_mo_shade_142 ?_
                refine V_getR d_mo_shade_143 fl_mo_142 is_mo r_mo_passOf ?_
                refine V_bipush 24 d_mo_shade_146 (by decide) ?_
                refine V_iload_1 d_mo_shade_148 ?_
                refine V_imul d_mo_shade_149 ?_
                refine V_iload_8 d_mo_shade_150 ?_
                refine V_iadd d_mo_shade_152 ?_
                refine V_iald d_mo_shade_153 is_mo_passOf (by omega) (by omega) ?_
                rw [e8]
                refine V_istore_7 d_mo_shade_154 rfl ?_
                refine V_iinc_8 d_mo_shade_156 rfl ?_
                refine V_goto 31 d_mo_shade_159 (by decide) ?_
                exact ih _ _ _ _ _ hv (by omega) (by omega) (by omega) (by omega) (by omega) h1 h2 h3 h4
              · skip
                refine V_aload_0 d_mo_shade_125 ?_
                refine V_getR d_mo_shade_126 fl_mo_142 is_mo r_mo_passOf ?_
                refine V_bipush 24 d_mo_shade_129 (by decide) ?_
                refine V_iload_1 d_mo_shade_131 ?_
                refine V_imul d_mo_shade_132 ?_
                refine V_iload_8 d_mo_shade_133 ?_
                refine V_iadd d_mo_shade_135 ?_
                refine V_iald d_mo_shade_136 is_mo_passOf (by omega) (by omega) ?_
                rw [e8]
                refine V_iload_7 d_mo_shade_137 ?_
                refine V_icmp_ge 156 d_mo_shade_139 (by decide) (by omega) (by omega) (fun c139 => ?_) (fun c139 => ?_)
                · skip
                  rw [if_neg (by omega)] at h4
                  refine V_iinc_8 d_mo_shade_156 rfl ?_
                  refine V_goto 31 d_mo_shade_159 (by decide) ?_
                  exact ih _ _ _ _ _ hv (by omega) (by omega) (by omega) (by omega) (by omega) h1 h2 h3 h4
                · skip
                  rw [if_pos ⟨c46, Or.inr (by omega)⟩] at h4
                  refine V_aload_0 d_mo_shade_142 ?_
                  refine V_getR d_mo_shade_143 fl_mo_142 is_mo r_mo_passOf ?_
                  refine V_bipush 24 d_mo_shade_146 (by decide) ?_
                  refine V_iload_1 d_mo_shade_148 ?_
                  refine V_imul d_mo_shade_149 ?_
                  refine V_iload_8 d_mo_shade_150 ?_
                  refine V_iadd d_mo_shade_152 ?_
                  refine V_iald d_mo_shade_153 is_mo_passOf (by omega) (by omega) ?_
                  rw [e8]
                  refine V_istore_7 d_mo_shade_154 rfl ?_
                  refine V_iinc_8 d_mo_shade_156 rfl ?_
                  refine V_goto 31 d_mo_shade_159 (by decide) ?_
                  exact ih _ _ _ _ _ hv (by omega) (by omega) (by omega) (by omega) (by omega) h1 h2 h3 h4
            · skip
              have bc := (hG.sg hF.1 (s := c) (by omega) (by omega)).2.2.2.1
              refine V_aload_0 d_mo_shade_100 ?_
              refine V_iload_8 d_mo_shade_101 ?_
              refine V_cvI1 d_mo_shade_103 ml_mo_334 mv_mo_hourOf (by decide) (Nat.le_of_ble_eq_true rfl) is_mo (ok_hourOf hG hF.1 h0 (by omega)) ?_
              rintro _ f2 ⟨rfl, e2⟩
              rw [e2]; clear e2 f2
              refine V_aload_0 d_mo_shade_106 ?_
              refine V_iload_6 d_mo_shade_107 ?_
              refine V_cvI1 d_mo_shade_109 ml_mo_334 mv_mo_hourOf (by decide) (Nat.le_of_ble_eq_true rfl) is_mo (ok_hourOf hG hF.1 (by omega) (by omega)) ?_
              rintro _ f2 ⟨rfl, e2⟩
              rw [e2]; clear e2 f2
              refine V_icmp_le 119 d_mo_shade_112 (by decide) (by omega) (by omega) (fun c112 => ?_) (fun c112 => ?_)
              · skip
                rw [if_neg (by omega)] at h3
                refine V_iload_7 d_mo_shade_119 ?_
                refine V_iconst (-1) d_mo_shade_121 ?_
                refine V_icmp_eq 142 d_mo_shade_122 (by decide) (by omega) (by omega) (fun c122 => ?_) (fun c122 => ?_)
                · skip
                  rw [if_pos ⟨c46, Or.inl c122⟩] at h4
                  refine V_aload_0 d_mo_shade_142 ?_
                  refine V_getR d_mo_shade_143 fl_mo_142 is_mo r_mo_passOf ?_
                  refine V_bipush 24 d_mo_shade_146 (by decide) ?_
                  refine V_iload_1 d_mo_shade_148 ?_
                  refine V_imul d_mo_shade_149 ?_
                  refine V_iload_8 d_mo_shade_150 ?_
                  refine V_iadd d_mo_shade_152 ?_
                  refine V_iald d_mo_shade_153 is_mo_passOf (by omega) (by omega) ?_
                  rw [e8]
                  refine V_istore_7 d_mo_shade_154 rfl ?_
                  refine V_iinc_8 d_mo_shade_156 rfl ?_
                  refine V_goto 31 d_mo_shade_159 (by decide) ?_
                  exact ih _ _ _ _ _ hv (by omega) (by omega) (by omega) (by omega) (by omega) h1 h2 h3 h4
                · skip
                  refine V_aload_0 d_mo_shade_125 ?_
                  refine V_getR d_mo_shade_126 fl_mo_142 is_mo r_mo_passOf ?_
                  refine V_bipush 24 d_mo_shade_129 (by decide) ?_
                  refine V_iload_1 d_mo_shade_131 ?_
                  refine V_imul d_mo_shade_132 ?_
                  refine V_iload_8 d_mo_shade_133 ?_
                  refine V_iadd d_mo_shade_135 ?_
                  refine V_iald d_mo_shade_136 is_mo_passOf (by omega) (by omega) ?_
                  rw [e8]
                  refine V_iload_7 d_mo_shade_137 ?_
                  refine V_icmp_ge 156 d_mo_shade_139 (by decide) (by omega) (by omega) (fun c139 => ?_) (fun c139 => ?_)
                  · skip
                    rw [if_neg (by omega)] at h4
                    refine V_iinc_8 d_mo_shade_156 rfl ?_
                    refine V_goto 31 d_mo_shade_159 (by decide) ?_
                    exact ih _ _ _ _ _ hv (by omega) (by omega) (by omega) (by omega) (by omega) h1 h2 h3 h4
                  · skip
                    rw [if_pos ⟨c46, Or.inr (by omega)⟩] at h4
                    refine V_aload_0 d_mo_shade_142 ?_
                    refine V_getR d_mo_shade_143 fl_mo_142 is_mo r_mo_passOf ?_
                    refine V_bipush 24 d_mo_shade_146 (by decide) ?_
                    refine V_iload_1 d_mo_shade_148 ?_
                    refine V_imul d_mo_shade_149 ?_
                    refine V_iload_8 d_mo_shade_150 ?_
                    refine V_iadd d_mo_shade_152 ?_
                    refine V_iald d_mo_shade_153 is_mo_passOf (by omega) (by omega) ?_
                    rw [e8]
                    refine V_istore_7 d_mo_shade_154 rfl ?_
                    refine V_iinc_8 d_mo_shade_156 rfl ?_
                    refine V_goto 31 d_mo_shade_159 (by decide) ?_
                    exact ih _ _ _ _ _ hv (by omega) (by omega) (by omega) (by omega) (by omega) h1 h2 h3 h4
              · skip
                rw [if_pos ⟨c46, Or.inr (by omega)⟩] at h3
                refine V_iload_8 d_mo_shade_115 ?_
                refine V_istore_6 d_mo_shade_117 rfl ?_
                refine V_iload_7 d_mo_shade_119 ?_
                refine V_iconst (-1) d_mo_shade_121 ?_
                refine V_icmp_eq 142 d_mo_shade_122 (by decide) (by omega) (by omega) (fun c122 => ?_) (fun c122 => ?_)
                · skip
                  rw [if_pos ⟨c46, Or.inl c122⟩] at h4
                  refine V_aload_0 d_mo_shade_142 ?_
                  refine V_getR d_mo_shade_143 fl_mo_142 is_mo r_mo_passOf ?_
                  refine V_bipush 24 d_mo_shade_146 (by decide) ?_
                  refine V_iload_1 d_mo_shade_148 ?_
                  refine V_imul d_mo_shade_149 ?_
                  refine V_iload_8 d_mo_shade_150 ?_
                  refine V_iadd d_mo_shade_152 ?_
                  refine V_iald d_mo_shade_153 is_mo_passOf (by omega) (by omega) ?_
                  rw [e8]
                  refine V_istore_7 d_mo_shade_154 rfl ?_
                  refine V_iinc_8 d_mo_shade_156 rfl ?_
                  refine V_goto 31 d_mo_shade_159 (by decide) ?_
                  exact ih _ _ _ _ _ hv (by omega) (by omega) (by omega) (by omega) (by omega) h1 h2 h3 h4
                · skip
                  refine V_aload_0 d_mo_shade_125 ?_
                  refine V_getR d_mo_shade_126 fl_mo_142 is_mo r_mo_passOf ?_
                  refine V_bipush 24 d_mo_shade_129 (by decide) ?_
                  refine V_iload_1 d_mo_shade_131 ?_
                  refine V_imul d_mo_shade_132 ?_
                  refine V_iload_8 d_mo_shade_133 ?_
                  refine V_iadd d_mo_shade_135 ?_
                  refine V_iald d_mo_shade_136 is_mo_passOf (by omega) (by omega) ?_
                  rw [e8]
                  refine V_iload_7 d_mo_shade_137 ?_
                  refine V_icmp_ge 156 d_mo_shade_139 (by decide) (by omega) (by omega) (fun c139 => ?_) (fun c139 => ?_)
                  · skip
                    rw [if_neg (by omega)] at h4
                    refine V_iinc_8 d_mo_shade_156 rfl ?_
                    refine V_goto 31 d_mo_shade_159 (by decide) ?_
                    exact ih _ _ _ _ _ hv (by omega) (by omega) (by omega) (by omega) (by omega) h1 h2 h3 h4
                  · skip
                    rw [if_pos ⟨c46, Or.inr (by omega)⟩] at h4
                    refine V_aload_0 d_mo_shade_142 ?_
                    refine V_getR d_mo_shade_143 fl_mo_142 is_mo r_mo_passOf ?_
                    refine V_bipush 24 d_mo_shade_146 (by decide) ?_
                    refine V_iload_1 d_mo_shade_148 ?_
                    refine V_imul d_mo_shade_149 ?_
                    refine V_iload_8 d_mo_shade_150 ?_
                    refine V_iadd d_mo_shade_152 ?_
                    refine V_iald d_mo_shade_153 is_mo_passOf (by omega) (by omega) ?_
                    rw [e8]
                    refine V_istore_7 d_mo_shade_154 rfl ?_
                    refine V_iinc_8 d_mo_shade_156 rfl ?_
                    refine V_goto 31 d_mo_shade_159 (by decide) ?_
                    exact ih _ _ _ _ _ hv (by omega) (by omega) (by omega) (by omega) (by omega) h1 h2 h3 h4
      · skip
        rw [mB_bt _ (by omega)] at c46
        rw [if_neg (by rw [c46]; decide)] at h1
        rw [if_neg (fun e => by rw [c46] at e; cases e.1)] at h2 h3 h4
        refine V_goto 156 d_mo_shade_49 (by decide) ?_
        refine V_iinc_8 d_mo_shade_156 rfl ?_
        refine V_goto 31 d_mo_shade_159 (by decide) ?_
        exact ih _ _ _ _ _ hv (by omega) (by omega) (by omega) (by omega) (by omega) h1 h2 h3 h4
  refine V_aload_0 d_mo_shade_0 ?_
  refine V_iload_1 d_mo_shade_1 ?_
  refine V_cvI1 d_mo_shade_2 ml_mo_453 mv_mo_isShade (by decide) (Nat.le_of_ble_eq_true rfl) is_mo (okm_isShade hG hF.1 hh) ?_
  rintro x2 f2 ⟨hx2, e2⟩
  rw [e2]; clear e2 f2
  refine V_if_ne 10 d_mo_shade_5 (by decide) (by omega) (fun c5 => ?_) (fun c5 => ?_)
  · skip
    refine V_aload_0 d_mo_shade_10 ?_
    refine V_iload_1 d_mo_shade_11 ?_
    refine V_cvI1 d_mo_shade_12 ml_mo_440 mv_mo_hiredBy (by decide) (Nat.le_of_ble_eq_true rfl) is_mo (ok_hiredBy hG hH hF.1 hF.2.1 hh) ?_
    rintro _ f2 ⟨rfl, e2⟩
    rw [e2]; clear e2 f2
    refine V_istore_3 d_mo_shade_15 rfl ?_
    refine V_iconst 0 d_mo_shade_16 ?_
    refine V_istore_4 d_mo_shade_17 rfl ?_
    refine V_iconst (-1) d_mo_shade_19 ?_
    refine V_istore_5 d_mo_shade_20 rfl ?_
    refine V_iconst (-1) d_mo_shade_22 ?_
    refine V_istore_6 d_mo_shade_23 rfl ?_
    refine V_iconst (-1) d_mo_shade_25 ?_
    refine V_istore_7 d_mo_shade_26 rfl ?_
    refine V_iconst 0 d_mo_shade_28 ?_
    refine V_istore_8 d_mo_shade_29 rfl ?_
    exact loop (A 0 4 0).toNat _ _ _ _ _ (by omega) (by omega) (by decide) (by omega) (by omega) (by decide) rfl rfl rfl rfl
  · skip
    refine V_iconst (-1) d_mo_shade_8 ?_
    refine V_ireturn d_mo_shade_9 (hR _ _ ?_)
    refine ⟨?_, rfl⟩
    unfold S_shade; rw [if_neg (by omega)]
/-- a crowd as the reference counts it -/
def crN (A : q_As) (k : Int) : Nat → Int → (Int → Bool) → Int → Int → Int
  | 0, _, _, a, b => if k = -1 then a else b
  | m + 1, i, p, a, b => if cheapest A p = -1 then -1 else crN A k m (i + 1) (less p (cheapest A p)) (a + A 10 (cheapest A p) 0) (if i = k then cheapest A p else b)
theorem cheapest_none (hF : Wf A) {p : Int → Bool} (hp : ∀ j, 0 ≤ j → j < 31 → p j = false) : cheapest A p = -1 := by
  have hn := hF.nn
  have gen : ∀ (m : Nat) (i : Int), 0 ≤ i → i + m = A 0 2 0 → cpN A p m i (-1) = -1 := by
    intro m
    induction m with
    | zero => intro i _ _; rfl
    | succ m ih =>
      intro i h0 hm
      unfold cpN
      rw [if_neg (fun e => by rw [hp i h0 (by omega)] at e; cases e.1)]
      exact ih _ (by omega) (by omega)
  exact gen (A 0 2 0).toNat 0 (by decide) (by omega)
theorem cnt_none {p : Int → Bool} (h : cnt p = 0) : ∀ j, 0 ≤ j → j < 31 → p j = false := by
  intro j j0 j1
  cases hp : p j
  · rfl
  · have h1 : cntN 31 0 (fun x => p x && !decide (x = j)) = cntN 31 0 p - 1 := cntN_rem hp 31 0 j0 (by omega)
    have h2 := cntN_rg (fun x => p x && !decide (x = j)) 31 0
    have h3 : cntN 31 0 p = 0 := h
    omega
theorem crN_few (hF : Wf A) (k : Int) : ∀ (m : Nat) (i : Int) (p : Int → Bool) (a b : Int), (∀ j, p j = true → j < A 0 2 0) → cnt p < m → crN A k m i p a b = -1 := by
  have hn := hF.nn
  intro m
  induction m with
  | zero => intro i p a b hp hc; have := cnt_rg p; omega
  | succ m ih =>
    intro i p a b hp hc
    unfold crN
    by_cases e : cnt p = 0
    · rw [if_pos (cheapest_none hF (cnt_none e))]
    · have := cnt_rg p
      obtain ⟨x, hx0, hx1, hx2⟩ := cnt_ex (p := p) (by omega)
      obtain ⟨c0, c1, c2⟩ := cheapest_in hF hp hx0 hx2
      have hl : cnt (less p (cheapest A p)) = cnt p - 1 := cntN_rem c2 31 0 c0 (by omega)
      rw [if_neg (by omega)]
      exact ih _ _ _ _ (fun j hj => hp j (by unfold less at hj; simp at hj; exact hj.1)) (by omega)
theorem crN_past (hF : Wf A) {k : Int} (hk : ¬ k = -1) : ∀ (m : Nat) (i : Int) (p : Int → Bool) (a b : Int), (∀ j, p j = true → j < A 0 2 0) → m ≤ cnt p → (k < i ∨ i + m ≤ k) → crN A k m i p a b = b := by
  have hn := hF.nn
  intro m
  induction m with
  | zero => intro i p a b hp hc h; unfold crN; rw [if_neg hk]
  | succ m ih =>
    intro i p a b hp hc h
    unfold crN
    have := cnt_rg p
    obtain ⟨x, hx0, hx1, hx2⟩ := cnt_ex (p := p) (by omega)
    obtain ⟨c0, c1, c2⟩ := cheapest_in hF hp hx0 hx2
    have hl : cnt (less p (cheapest A p)) = cnt p - 1 := cntN_rem c2 31 0 c0 (by omega)
    rw [if_neg (by omega), if_neg (by omega)]
    exact ih _ _ _ _ (fun j hj => hp j (by unfold less at hj; simp at hj; exact hj.1)) (by omega) (by omega)
theorem crN_cw (hF : Wf A) {k : Int} : ∀ (m : Nat) (i : Int) (p : Int → Bool) (a b : Int), (∀ j, p j = true → j < A 0 2 0) → m ≤ cnt p → 0 ≤ i → (k = -1 ∨ (i ≤ k ∧ k < i + m)) → crN A k m i p a b = cwN A k m i p a := by
  have hn := hF.nn
  intro m
  induction m with
  | zero =>
    intro i p a b hp hc h0 h
    unfold crN cwN; rw [if_pos (by omega)]
  | succ m ih =>
    intro i p a b hp hc h0 h
    unfold crN cwN
    have := cnt_rg p
    obtain ⟨x, hx0, hx1, hx2⟩ := cnt_ex (p := p) (by omega)
    obtain ⟨c0, c1, c2⟩ := cheapest_in hF hp hx0 hx2
    have hl : cnt (less p (cheapest A p)) = cnt p - 1 := cntN_rem c2 31 0 c0 (by omega)
    have hp' : ∀ j, less p (cheapest A p) j = true → j < A 0 2 0 := fun j hj => hp j (by unfold less at hj; simp at hj; exact hj.1)
    rw [if_neg (by omega)]
    by_cases e : i = k
    · rw [if_pos e, if_pos e]
      exact crN_past hF (by omega) _ _ _ _ _ hp' (by omega) (by omega)
    · rw [if_neg e, if_neg e]
      exact ih _ _ _ _ hp' (by omega) (by omega) (by omega)
theorem crN_is (hF : Wf A) {n k : Int} {p : Int → Bool} (hp : ∀ j, p j = true → j < A 0 2 0) (hn1 : 1 ≤ n ∧ n ≤ 5) : crN A k n.toNat 0 p 0 (-1) = if (-1 ≤ k ∧ k < n) ∧ n ≤ cnt p then cwN A k n.toNat 0 p 0 else -1 := by
  by_cases hc : n ≤ cnt p
  · by_cases hk : -1 ≤ k ∧ k < n
    · rw [if_pos ⟨hk, hc⟩]; exact crN_cw hF _ _ _ _ _ hp (by omega) (by decide) (by omega)
    · rw [if_neg (fun e => hk e.1)]; exact crN_past hF (by omega) _ _ _ _ _ hp (by omega) (by omega)
  · rw [if_neg (fun e => hc e.2)]; exact crN_few hF _ _ _ _ _ _ hp (by omega)
theorem cpN_rg (p : Int → Bool) : ∀ (m : Nat) (i b : Int), 0 ≤ i → (-1 ≤ b ∧ b < i) → -1 ≤ cpN A p m i b ∧ cpN A p m i b < i + m := by
  intro m
  induction m with
  | zero => intro i b h0 hb; unfold cpN; omega
  | succ m ih =>
    intro i b h0 hb
    unfold cpN
    have := ih (i + 1) (if p i = true ∧ (b = -1 ∨ A 10 i 0 < A 10 b 0) then i else b) (by omega) (by split <;> omega)
    omega
theorem mo_crowd (hS : Mst f A) (hF : Wf A) {p t n k : Int} (hp : -2147483648 ≤ p ∧ p < 2147483648) (ht : -2147483648 ≤ t ∧ t < 2147483648) (hn1 : -2147483648 ≤ n ∧ n < 2147483648) (hk : -2147483648 ≤ k ∧ k < 2147483648) : OkI D m_mo_crowd [vr D 219, vi p, vi t, vi n, vi k] (Zg g h) f (fun x f' => x = S_crowd A p t n k ∧ f' = f) := by
  have hn := hF.nn
  obtain ⟨hG, hH, hT⟩ := hS
  refine OkI_of (L0 := [vr D 219, vi p, vi t, vi n, vi k, vu, vu, vu, vu, vu, vu]) mi_mo_crowd rfl rfl (Nat.le_of_ble_eq_true rfl) (fun C hR => ?_)
  have inner : ∀ (m : Nat) (j b c sm fd i : Int) (q P : Int → Bool), ((0 ≤ p ∧ p < A 0 3 0) ∧ 0 ≤ t ∧ t ≤ 99) → (∀ x, P x = ((decide (x < A 0 2 0) && bodyOk A p t 1 x) && !q x)) → (∀ y, V D C m_mo_crowd 129 [vr D 219, vi p, vi t, vi n, vi k, vi (mB q), vi sm, vi fd, vi i, vi c, vi y] [] (Zg g h) f) → j + m = A 0 2 0 → 0 ≤ j → (-1 ≤ b ∧ b < A 0 2 0) → cpN A P m j b = c → V D C m_mo_crowd 58 [vr D 219, vi p, vi t, vi n, vi k, vi (mB q), vi sm, vi fd, vi i, vi b, vi j] [] (Zg g h) f := by
    intro m
    induction m with
    | zero =>
      intro j b c sm fd i q P hv hP K hm h0 hb hr
      unfold cpN at hr
      subst hr
      refine V_iload_10 d_mo_crowd_58 ?_
      refine V_aload_0 d_mo_crowd_60 ?_
      refine V_cvI0 d_mo_crowd_61 ml_mo_419 mv_mo_shadeMany (by decide) (Nat.le_of_ble_eq_true rfl) is_mo (ok_shadeMany hG) ?_
      rintro _ f2 ⟨rfl, e2⟩
      rw [e2]; clear e2 f2
      refine V_icmp_ge 129 d_mo_crowd_64 (by decide) (by omega) (by omega) (fun c64 => ?_) (fun c64 => by omega)
      exact K _
    | succ m ih =>
      intro j b c sm fd i q P hv hP K hm h0 hb hr
      have hk2 := allN_ok hF.1 (p := p) (t := t) (w := 1) (b := j)
      rw [show bodies A 1 j = held A j from rfl] at hk2
      obtain ⟨ej, bj⟩ := hG.fee hF.1 (k := j) (by omega)
      have hPj := hP j
      rw [decide_eq_true (show j < A 0 2 0 by omega), Bool.true_and] at hPj
      unfold cpN at hr
      refine V_iload_10 d_mo_crowd_58 ?_
      refine V_aload_0 d_mo_crowd_60 ?_
      refine V_cvI0 d_mo_crowd_61 ml_mo_419 mv_mo_shadeMany (by decide) (Nat.le_of_ble_eq_true rfl) is_mo (ok_shadeMany hG) ?_
      rintro _ f2 ⟨rfl, e2⟩
      rw [e2]; clear e2 f2
      refine V_icmp_ge 129 d_mo_crowd_64 (by decide) (by omega) (by omega) (fun c64 => by omega) (fun c64 => ?_)
      refine V_iload_5 d_mo_crowd_67 ?_
      refine V_iload_10 d_mo_crowd_69 ?_
      refine V_ishr d_mo_crowd_71 ?_
      refine V_iconst 1 d_mo_crowd_72 ?_
      refine V_iand d_mo_crowd_73 ?_
      refine V_if_ne 123 d_mo_crowd_74 (by decide) (mB_shrrg _ _) (fun c74 => ?_) (fun c74 => ?_)
      · skip
        rw [mB_bf _ (by omega)] at c74
        have hno : P j = false := by rw [hPj, c74]; simp
        rw [if_neg (fun e => by rw [hno] at e; cases e.1)] at hr
        refine V_iinc_10 d_mo_crowd_123 rfl ?_
        refine V_goto 58 d_mo_crowd_126 (by decide) ?_
        exact ih _ _ c _ _ _ q P hv hP K (by omega) (by omega) (by omega) hr
      · skip
        rw [mB_bt _ (by omega)] at c74
        refine V_aload_0 d_mo_crowd_77 ?_
        refine V_aload_0 d_mo_crowd_78 ?_
        refine V_iload_10 d_mo_crowd_79 ?_
        refine V_cvI1 d_mo_crowd_81 ml_mo_440 mv_mo_hiredBy (by decide) (Nat.le_of_ble_eq_true rfl) is_mo (ok_hiredBy hG hH hF.1 hF.2.1 (by omega)) ?_
        rintro _ f2 ⟨rfl, e2⟩
        rw [e2]; clear e2 f2
        refine V_iload_1 d_mo_crowd_84 ?_
        refine V_iload_2 d_mo_crowd_85 ?_
        refine V_cvI3 d_mo_crowd_86 ml_mo_488 mv_mo_couldBe (by decide) (Nat.le_of_ble_eq_true rfl) is_mo (ok_couldBe hG hF.1 _ hv.1 hv.2) ?_
        rintro x86 f2 ⟨hx86, e2⟩
        rw [e2]; clear e2 f2
        refine V_if_eq 123 d_mo_crowd_89 (by decide) (by omega) (fun c89 => ?_) (fun c89 => ?_)
        · skip
          have hno : P j = false := by
            have : bodyOk A p t 1 j = false := by
              cases hb : bodyOk A p t 1 j
              · rfl
              · exact absurd (hk2.mpr hb) (q_b0 hx86 c89)
            rw [hPj, this]; rfl
          rw [if_neg (fun e => by rw [hno] at e; cases e.1)] at hr
          refine V_iinc_10 d_mo_crowd_123 rfl ?_
          refine V_goto 58 d_mo_crowd_126 (by decide) ?_
          exact ih _ _ c _ _ _ q P hv hP K (by omega) (by omega) (by omega) hr
        · skip
          have hyes : P j = true := by rw [hPj, hk2.mp (q_b1 hx86 c89), c74]; rfl
          refine V_iload_9 d_mo_crowd_92 ?_
          refine V_iconst (-1) d_mo_crowd_94 ?_
          refine V_icmp_eq 119 d_mo_crowd_95 (by decide) (by omega) (by omega) (fun c95 => ?_) (fun c95 => ?_)
          · skip
            rw [if_pos ⟨hyes, Or.inl c95⟩] at hr
            refine V_iload_10 d_mo_crowd_119 ?_
            refine V_istore_9 d_mo_crowd_121 rfl ?_
            refine V_iinc_10 d_mo_crowd_123 rfl ?_
            refine V_goto 58 d_mo_crowd_126 (by decide) ?_
            exact ih _ _ c _ _ _ q P hv hP K (by omega) (by omega) (by omega) hr
          · skip
            obtain ⟨eb, bb⟩ := hG.fee hF.1 (k := b) (by omega)
            refine V_aload_0 d_mo_crowd_98 ?_
            refine V_getR d_mo_crowd_99 fl_mo_112 is_mo r_mo_fees ?_
            refine V_iconst 5 d_mo_crowd_102 ?_
            refine V_iload_10 d_mo_crowd_103 ?_
            refine V_iadd d_mo_crowd_105 ?_
            refine V_iald d_mo_crowd_106 is_mo_fees (by omega) (by omega) ?_
            refine V_aload_0 d_mo_crowd_107 ?_
            refine V_getR d_mo_crowd_108 fl_mo_112 is_mo r_mo_fees ?_
            refine V_iconst 5 d_mo_crowd_111 ?_
            refine V_iload_9 d_mo_crowd_112 ?_
            refine V_iadd d_mo_crowd_114 ?_
            refine V_iald d_mo_crowd_115 is_mo_fees (by omega) (by omega) ?_
            rw [ej, eb]
            refine V_icmp_ge 123 d_mo_crowd_116 (by decide) (by omega) (by omega) (fun c116 => ?_) (fun c116 => ?_)
            · skip
              rw [if_neg (by omega)] at hr
              refine V_iinc_10 d_mo_crowd_123 rfl ?_
              refine V_goto 58 d_mo_crowd_126 (by decide) ?_
              exact ih _ _ c _ _ _ q P hv hP K (by omega) (by omega) (by omega) hr
            · skip
              rw [if_pos ⟨hyes, Or.inr (by omega)⟩] at hr
              refine V_iload_10 d_mo_crowd_119 ?_
              refine V_istore_9 d_mo_crowd_121 rfl ?_
              refine V_iinc_10 d_mo_crowd_123 rfl ?_
              refine V_goto 58 d_mo_crowd_126 (by decide) ?_
              exact ih _ _ c _ _ _ q P hv hP K (by omega) (by omega) (by omega) hr
  have outer : ∀ (m : Nat) (i a b : Int) (q P : Int → Bool) (a9 a10 : Value), ((0 ≤ p ∧ p < A 0 3 0) ∧ 0 ≤ t ∧ t ≤ 99) → (1 ≤ n ∧ n ≤ 5) → (∀ x, P x = ((decide (x < A 0 2 0) && bodyOk A p t 1 x) && !q x)) → i + m = n → 0 ≤ i → (0 ≤ a ∧ a ≤ 99 * i) → crN A k m i P a b = S_crowd A p t n k → V D C m_mo_crowd 46 [vr D 219, vi p, vi t, vi n, vi k, vi (mB q), vi a, vi b, vi i, a9, a10] [] (Zg g h) f := by
    intro m
    induction m with
    | zero =>
      intro i a b q P a9 a10 hv hn5 hP hm h0 ha hr
      unfold crN at hr
      refine V_iload_8 d_mo_crowd_46 ?_
      refine V_iload_3 d_mo_crowd_48 ?_
      refine V_icmp_ge 177 d_mo_crowd_49 (by decide) (by omega) (by omega) (fun c49 => ?_) (fun c49 => by omega)
      refine V_iload_4 d_mo_crowd_177 ?_
      refine V_iconst (-1) d_mo_crowd_179 ?_
      refine V_icmp_ne 188 d_mo_crowd_180 (by decide) (by omega) (by omega) (fun c180 => ?_) (fun c180 => ?_)
      · skip
        rw [if_neg (by omega)] at hr
        refine V_iload_7 d_mo_crowd_188 ?_
        refine V_ireturn d_mo_crowd_190 (hR _ _ ?_)
        exact ⟨hr, rfl⟩
      · skip
        rw [if_pos (by omega)] at hr
        refine V_iload_6 d_mo_crowd_183 ?_
        refine V_goto 190 d_mo_crowd_185 (by decide) ?_
        refine V_ireturn d_mo_crowd_190 (hR _ _ ?_)
        exact ⟨hr, rfl⟩
    | succ m ih =>
      intro i a b q P a9 a10 hv hn5 hP hm h0 ha hr
      unfold crN at hr
      have hcr : -1 ≤ cheapest A P ∧ cheapest A P < A 0 2 0 := by
        have := cpN_rg (A := A) P (A 0 2 0).toNat 0 (-1) (by decide) (by decide)
        unfold cheapest; omega
      have K : ∀ y, V D C m_mo_crowd 129 [vr D 219, vi p, vi t, vi n, vi k, vi (mB q), vi a, vi b, vi i, vi (cheapest A P), vi y] [] (Zg g h) f := by
        intro y
        refine V_iload_9 d_mo_crowd_129 ?_
        refine V_iconst (-1) d_mo_crowd_131 ?_
        refine V_icmp_ne 137 d_mo_crowd_132 (by decide) (by omega) (by omega) (fun c132 => ?_) (fun c132 => ?_)
        · skip
          rw [if_neg (by omega)] at hr
          obtain ⟨ec, bc⟩ := hG.fee hF.1 (k := cheapest A P) (by omega)
          have hP' : ∀ x, less P (cheapest A P) x = ((decide (x < A 0 2 0) && bodyOk A p t 1 x) && !(q x || decide (x = cheapest A P))) := by
            intro x; unfold less; rw [hP x]; simp [Bool.and_assoc]
          refine V_iload_5 d_mo_crowd_137 ?_
          refine V_iconst 1 d_mo_crowd_139 ?_
          refine V_iload_9 d_mo_crowd_140 ?_
          refine V_ishl d_mo_crowd_142 ?_
          refine V_ior d_mo_crowd_143 ?_
          rw [mB_one (by omega), mB_or]
          refine V_istore_5 d_mo_crowd_144 rfl ?_
          refine V_iload_6 d_mo_crowd_146 ?_
          refine V_aload_0 d_mo_crowd_148 ?_
          refine V_getR d_mo_crowd_149 fl_mo_112 is_mo r_mo_fees ?_
          refine V_iconst 5 d_mo_crowd_152 ?_
          refine V_iload_9 d_mo_crowd_153 ?_
          refine V_iadd d_mo_crowd_155 ?_
          refine V_iald d_mo_crowd_156 is_mo_fees (by omega) (by omega) ?_
          rw [ec]
          refine V_iadd d_mo_crowd_157 ?_
          refine V_istore_6 d_mo_crowd_158 rfl ?_
          refine V_iload_8 d_mo_crowd_160 ?_
          refine V_iload_4 d_mo_crowd_162 ?_
          refine V_icmp_ne 171 d_mo_crowd_164 (by decide) (by omega) (by omega) (fun c164 => ?_) (fun c164 => ?_)
          · skip
            rw [if_neg (by omega)] at hr
            refine V_iinc_8 d_mo_crowd_171 rfl ?_
            refine V_goto 46 d_mo_crowd_174 (by decide) ?_
            exact ih _ _ _ _ _ _ _ hv hn5 hP' (by omega) (by omega) (by omega) hr
          · skip
            rw [if_pos (by omega)] at hr
            refine V_iload_9 d_mo_crowd_167 ?_
            refine V_istore_7 d_mo_crowd_169 rfl ?_
            refine V_iinc_8 d_mo_crowd_171 rfl ?_
            refine V_goto 46 d_mo_crowd_174 (by decide) ?_
            exact ih _ _ _ _ _ _ _ hv hn5 hP' (by omega) (by omega) (by omega) hr
        · skip
          rw [if_pos (by omega)] at hr
          refine V_iconst (-1) d_mo_crowd_135 ?_
          refine V_ireturn d_mo_crowd_136 (hR _ _ ?_)
          exact ⟨hr, rfl⟩
      refine V_iload_8 d_mo_crowd_46 ?_
      refine V_iload_3 d_mo_crowd_48 ?_
      refine V_icmp_ge 177 d_mo_crowd_49 (by decide) (by omega) (by omega) (fun c49 => by omega) (fun c49 => ?_)
      refine V_iconst (-1) d_mo_crowd_52 ?_
      refine V_istore_9 d_mo_crowd_53 rfl ?_
      refine V_iconst 0 d_mo_crowd_55 ?_
      refine V_istore_10 d_mo_crowd_56 rfl ?_
      exact inner (A 0 2 0).toNat _ _ _ _ _ _ q P hv hP K (by omega) (by decide) (by omega) rfl
  refine V_aload_0 d_mo_crowd_0 ?_
  refine V_iload_1 d_mo_crowd_1 ?_
  refine V_cvI1 d_mo_crowd_2 ml_mo_459 mv_mo_isPlaceHere (by decide) (Nat.le_of_ble_eq_true rfl) is_mo (ok_isPlaceHere hG hF.1 hp) ?_
  rintro x2 f2 ⟨hx2, e2⟩
  rw [e2]; clear e2 f2
  refine V_if_eq 32 d_mo_crowd_5 (by decide) (by omega) (fun c5 => ?_) (fun c5 => ?_)
  · skip
    refine V_iconst (-1) d_mo_crowd_32 ?_
    refine V_ireturn d_mo_crowd_33 (hR _ _ ?_)
    refine ⟨?_, rfl⟩
    unfold S_crowd; rw [if_neg (by omega)]
  · skip
    refine V_iload_2 d_mo_crowd_8 ?_
    refine V_i2l d_mo_crowd_9 (by omega) ?_
    refine V_lconst0 d_mo_crowd_10 ?_
    refine V_ldc2 99 d_mo_crowd_11 co_mo_486 rfl ?_
    refine V_csI3 d_mo_crowd_14 ml_mo_225 ms_mo_isIn (by decide) (Nat.le_of_ble_eq_true rfl) (ok_isIn (by omega) (by omega) (by omega)) ?_
    rintro x14 f2 ⟨hx14, e2⟩
    rw [e2]; clear e2 f2
    refine V_if_eq 32 d_mo_crowd_17 (by decide) (by omega) (fun c17 => ?_) (fun c17 => ?_)
    · skip
      refine V_iconst (-1) d_mo_crowd_32 ?_
      refine V_ireturn d_mo_crowd_33 (hR _ _ ?_)
      refine ⟨?_, rfl⟩
      unfold S_crowd; rw [if_neg (by omega)]
    · skip
      refine V_iload_3 d_mo_crowd_20 ?_
      refine V_i2l d_mo_crowd_21 (by omega) ?_
      refine V_lconst1 d_mo_crowd_22 ?_
      refine V_ldc2 5 d_mo_crowd_23 co_mo_448 rfl ?_
      refine V_csI3 d_mo_crowd_26 ml_mo_225 ms_mo_isIn (by decide) (Nat.le_of_ble_eq_true rfl) (ok_isIn (by omega) (by omega) (by omega)) ?_
      rintro x26 f2 ⟨hx26, e2⟩
      rw [e2]; clear e2 f2
      refine V_if_ne 34 d_mo_crowd_29 (by decide) (by omega) (fun c29 => ?_) (fun c29 => ?_)
      · skip
        refine V_iconst 0 d_mo_crowd_34 ?_
        refine V_istore_5 d_mo_crowd_35 rfl ?_
        refine V_iconst 0 d_mo_crowd_37 ?_
        refine V_istore_6 d_mo_crowd_38 rfl ?_
        refine V_iconst (-1) d_mo_crowd_40 ?_
        refine V_istore_7 d_mo_crowd_41 rfl ?_
        refine V_iconst 0 d_mo_crowd_43 ?_
        refine V_istore_8 d_mo_crowd_44 rfl ?_
        have h5 : 1 ≤ n ∧ n ≤ 5 := by omega
        have key : crN A k n.toNat 0 (fun b => decide (b < A 0 2 0) && bodyOk A p t 1 b) 0 (-1) = S_crowd A p t n k := by
          rw [crN_is hF (fun j hj => by simp at hj; exact hj.1) h5]
          unfold S_crowd
          by_cases e : (-1 ≤ k ∧ k < n) ∧ n ≤ cnt (fun b => decide (b < A 0 2 0) && bodyOk A p t 1 b)
          · rw [if_pos e, if_pos ⟨by omega, h5, e⟩]
          · rw [if_neg e, if_neg (fun e' => e e'.2.2)]
        have := fun a9 a10 => outer n.toNat 0 0 (-1) (fun _ => false) (fun b => decide (b < A 0 2 0) && bodyOk A p t 1 b) a9 a10 (by omega) h5 (fun x => by simp) (by omega) (by decide) (by decide) key
        rw [mB_0] at this
        exact this _ _
      · skip
        refine V_iconst (-1) d_mo_crowd_32 ?_
        refine V_ireturn d_mo_crowd_33 (hR _ _ ?_)
        refine ⟨?_, rfl⟩
        unfold S_crowd; rw [if_neg (by omega)]
theorem p27_pos (c : Nat) : (0 : Int) < 27 ^ c := Int.pow_pos (by decide)
theorem p27_mono {c d : Nat} (h : c ≤ d) : (27 : Int) ^ c ≤ 27 ^ d := by
  obtain ⟨e, rfl⟩ := Nat.le.dest h
  induction e with
  | zero => exact Int.le_refl _
  | succ e ih =>
    have h1 := ih (by omega)
    have h2 := p27_pos (c + e)
    rw [← Nat.add_assoc, Int.pow_succ]; omega
theorem p27_dv (v : Int) (c : Nat) : v / 27 ^ c / 27 = v / 27 ^ (c + 1) := by
  rw [Int.ediv_ediv_of_nonneg (Int.le_of_lt (p27_pos c)), Int.pow_succ]
theorem p27_rg {v : Int} (h : 0 ≤ v) (c : Nat) : 0 ≤ v / 27 ^ c ∧ v / 27 ^ c ≤ v := ⟨Int.ediv_nonneg h (Int.le_of_lt (p27_pos c)), Int.ediv_le_self _ h⟩
theorem mo_letter (hS : Mst f A) (hF : Wf A) {i w k : Int} (hi : -2147483648 ≤ i ∧ i < 2147483648) (hw : -2147483648 ≤ w ∧ w < 2147483648) (hk : -2147483648 ≤ k ∧ k < 2147483648) : OkI D m_mo_letter [vr D 219, vi i, vi w, vi k] (Zg g h) f (fun x f' => x = S_letter A i w k ∧ f' = f) := by
  have hn := hF.nn
  obtain ⟨hG, hH, hT⟩ := hS
  obtain ⟨e0, e1, e2, e3, -⟩ := hG.1
  have ek : 0 ≤ i ∧ i ≤ 3 → f 246 (7 + i) = A 0 i 0 ∧ 0 ≤ A 0 i 0 ∧ A 0 i 0 ≤ 8 := by
    intro hj
    rcases (show i = 0 ∨ i = 1 ∨ i = 2 ∨ i = 3 by omega) with rfl | rfl | rfl | rfl
    · exact ⟨e0, by omega⟩
    · exact ⟨e1, by omega⟩
    · exact ⟨e2, by omega⟩
    · exact ⟨e3, by omega⟩
  refine OkI_of (L0 := [vr D 219, vi i, vi w, vi k, vu, vu, vu, vu, vu]) mi_mo_letter rfl rfl (Nat.le_of_ble_eq_true rfl) (fun C hR => ?_)
  have main : (0 ≤ i ∧ i ≤ 3) ∧ (0 ≤ w ∧ w < A 0 i 0) ∧ (0 ≤ k ∧ k ≤ 5) → V D C m_mo_letter 70 [vr D 219, vi i, vi w, vi k, vl (f 247 (32 + 8 * i + w)), vu, vi 0, vl (f 247 (32 + 8 * i + w)), vu] [] (Zg g h) f := by
    intro hv
    have hx : S_letter A i w k = A 1 (8 * i + w) k := by unfold S_letter; rw [if_pos hv]
    obtain ⟨n, n0, n6, hle, hze, hvr, hdg, hlt⟩ := hG.2.2.1 i w hv.1.1 (by omega) hv.2.1.1 hv.2.1.2
    generalize hvv : f 247 (32 + 8 * i + w) = v at *
    have hd0 := hdg 0 (by decide) n0
    have hl0 := hle 0 (by decide) n0
    have hge : ∀ c : Nat, (c : Int) < n → 1 ≤ v / 27 ^ c := by
      intro c hc
      have h1 : v / 27 ^ (n - 1 - 0).toNat % 27 ≤ v / 27 ^ (n - 1 - 0).toNat := by
        have := (p27_rg (show 0 ≤ v by omega) (n - 1 - 0).toNat).1
        omega
      have h2 : (1 : Int) ≤ v / 27 ^ (n - 1 - 0).toNat := by omega
      have h3 : (27 : Int) ^ c ≤ 27 ^ (n - 1 - 0).toNat := p27_mono (by omega)
      have h4 : (27 : Int) ^ (n - 1 - 0).toNat ≤ v := by
        have := (Int.le_ediv_iff_mul_le (p27_pos (n - 1 - 0).toNat)).mp h2
        rwa [Int.one_mul] at this
      refine (Int.le_ediv_iff_mul_le (p27_pos c)).mpr ?_
      rw [Int.one_mul]; omega
    have loop2 : ∀ (m : Nat) (q : Int) (a8 : Value), q = k + m → q < n → V D C m_mo_letter 105 [vr D 219, vi i, vi w, vi k, vl (v / 27 ^ (n - 1 - q).toNat), vu, vi n, vi q, a8] [] (Zg g h) f := by
      intro m
      induction m with
      | zero =>
        intro q a8 hq hqn
        have hr := p27_rg (show 0 ≤ v by omega) (n - 1 - q).toNat
        have hqk : q = k := by omega
        subst hqk
        refine V_iload_7 d_mo_letter_105 ?_
        refine V_iload_3 d_mo_letter_107 ?_
        refine V_icmp_le 125 d_mo_letter_108 (by decide) (by omega) (by omega) (fun c108 => ?_) (fun c108 => by omega)
        refine V_lload_4 d_mo_letter_125 ?_
        refine V_ldc2 27 d_mo_letter_127 co_mo_236 rfl ?_
        refine V_lrem d_mo_letter_130 (by omega) (by omega) ?_
        refine V_l2i d_mo_letter_131 ?_
        refine V_ireturn d_mo_letter_132 (hR _ _ ?_)
        exact ⟨by rw [hx]; exact hdg q (by omega) hqn, rfl⟩
      | succ m ih =>
        intro q a8 hq hqn
        have hr := p27_rg (show 0 ≤ v by omega) (n - 1 - q).toNat
        refine V_iload_7 d_mo_letter_105 ?_
        refine V_iload_3 d_mo_letter_107 ?_
        refine V_icmp_le 125 d_mo_letter_108 (by decide) (by omega) (by omega) (fun c108 => by omega) (fun c108 => ?_)
        refine V_lload_4 d_mo_letter_111 ?_
        refine V_ldc2 27 d_mo_letter_113 co_mo_236 rfl ?_
        refine V_ldiv d_mo_letter_116 (by omega) (by omega) ?_
        rw [p27_dv, show (n - 1 - q).toNat + 1 = (n - 1 - (q + -1)).toNat by omega]
        refine V_lstore_4 d_mo_letter_117 rfl ?_
        refine V_iinc_7 d_mo_letter_119 rfl ?_
        refine V_goto 105 d_mo_letter_122 (by decide) ?_
        exact ih _ _ (by omega) (by omega)
    have loop1 : ∀ (m c : Nat) (a8 : Value), (c : Int) + m = n → V D C m_mo_letter 70 [vr D 219, vi i, vi w, vi k, vl v, vu, vi c, vl (v / 27 ^ c), a8] [] (Zg g h) f := by
      intro m
      induction m with
      | zero =>
        intro c a8 hc
        have hcn : (c : Int) = n := by omega
        have h0 : v / 27 ^ c = 0 := Int.ediv_eq_zero_of_lt (by omega) (by rw [show c = n.toNat by omega]; exact hlt)
        rw [h0, hcn]
        refine V_lload_7 d_mo_letter_70 ?_
        refine V_lconst0 d_mo_letter_72 ?_
        refine V_lcmp_le 91 d_mo_letter_73 d_mo_letter_74 (by decide) (by omega) (by omega) (fun c73 => ?_) (fun c73 => by omega)
        refine V_iload_3 d_mo_letter_91 ?_
        refine V_iload_6 d_mo_letter_92 ?_
        refine V_icmp_lt 99 d_mo_letter_94 (by decide) (by omega) (by omega) (fun c94 => ?_) (fun c94 => ?_)
        · skip
          have h1 : v = v / 27 ^ (n - 1 - (n - 1)).toNat := by rw [show (n - 1 - (n - 1)).toNat = 0 by omega]; simp
          refine V_iload_6 d_mo_letter_99 ?_
          refine V_iconst 1 d_mo_letter_101 ?_
          refine V_isub d_mo_letter_102 ?_
          refine V_istore_7 d_mo_letter_103 rfl ?_
          rw [h1]
          exact loop2 (n - 1 - k).toNat _ _ (by omega) (by omega)
        · skip
          refine V_iconst 0 d_mo_letter_97 ?_
          refine V_ireturn d_mo_letter_98 (hR _ _ ?_)
          exact ⟨by rw [hx]; exact (hze k (by omega) (by omega)).symm, rfl⟩
      | succ m ih =>
        intro c a8 hc
        have h0 := hge c (by omega)
        have hr := p27_rg (show 0 ≤ v by omega) c
        refine V_lload_7 d_mo_letter_70 ?_
        refine V_lconst0 d_mo_letter_72 ?_
        refine V_lcmp_le 91 d_mo_letter_73 d_mo_letter_74 (by decide) (by omega) (by omega) (fun c73 => by omega) (fun c73 => ?_)
        refine V_iinc_6 d_mo_letter_77 rfl ?_
        refine V_lload_7 d_mo_letter_80 ?_
        refine V_ldc2 27 d_mo_letter_82 co_mo_236 rfl ?_
        refine V_ldiv d_mo_letter_85 (by omega) (by omega) ?_
        rw [p27_dv]
        refine V_lstore_7 d_mo_letter_86 rfl ?_
        refine V_goto 70 d_mo_letter_88 (by decide) ?_
        exact ih (c + 1) _ (by omega)
    have := loop1 n.toNat 0 vu (by omega)
    simpa using this
  refine V_iload_1 d_mo_letter_0 ?_
  refine V_i2l d_mo_letter_1 (by omega) ?_
  refine V_lconst0 d_mo_letter_2 ?_
  refine V_ldc2 3 d_mo_letter_3 co_mo_446 rfl ?_
  refine V_csI3 d_mo_letter_6 ml_mo_225 ms_mo_isIn (by decide) (Nat.le_of_ble_eq_true rfl) (ok_isIn (by omega) (by omega) (by omega)) ?_
  rintro x6 f2 ⟨hx6, e2⟩
  rw [e2]; clear e2 f2
  refine V_if_eq 45 d_mo_letter_9 (by decide) (by omega) (fun c9 => ?_) (fun c9 => ?_)
  · skip
    refine V_iconst (-1) d_mo_letter_45 ?_
    refine V_ireturn d_mo_letter_46 (hR _ _ ?_)
    refine ⟨?_, rfl⟩
    unfold S_letter; rw [if_neg (by omega)]
  · skip
    obtain ⟨eq, bq⟩ := ek (by omega)
    refine V_iload_2 d_mo_letter_12 ?_
    refine V_i2l d_mo_letter_13 (by omega) ?_
    refine V_lconst0 d_mo_letter_14 ?_
    refine V_aload_0 d_mo_letter_15 ?_
    refine V_getR d_mo_letter_16 fl_mo_93 is_mo r_mo_many ?_
    refine V_bipush 7 d_mo_letter_19 (by decide) ?_
    refine V_iload_1 d_mo_letter_21 ?_
    refine V_iadd d_mo_letter_22 ?_
    refine V_iald d_mo_letter_23 is_mo_many (by omega) (by omega) ?_
    rw [eq]
    refine V_iconst 1 d_mo_letter_24 ?_
    refine V_isub d_mo_letter_25 ?_
    refine V_i2l d_mo_letter_26 (by omega) ?_
    refine V_csI3 d_mo_letter_27 ml_mo_225 ms_mo_isIn (by decide) (Nat.le_of_ble_eq_true rfl) (ok_isIn (by omega) (by omega) (by omega)) ?_
    rintro x27 f2 ⟨hx27, e2⟩
    rw [e2]; clear e2 f2
    refine V_if_eq 45 d_mo_letter_30 (by decide) (by omega) (fun c30 => ?_) (fun c30 => ?_)
    · skip
      refine V_iconst (-1) d_mo_letter_45 ?_
      refine V_ireturn d_mo_letter_46 (hR _ _ ?_)
      refine ⟨?_, rfl⟩
      unfold S_letter; rw [if_neg (by omega)]
    · skip
      refine V_iload_3 d_mo_letter_33 ?_
      refine V_i2l d_mo_letter_34 (by omega) ?_
      refine V_lconst0 d_mo_letter_35 ?_
      refine V_ldc2 5 d_mo_letter_36 co_mo_448 rfl ?_
      refine V_csI3 d_mo_letter_39 ml_mo_225 ms_mo_isIn (by decide) (Nat.le_of_ble_eq_true rfl) (ok_isIn (by omega) (by omega) (by omega)) ?_
      rintro x39 f2 ⟨hx39, e2⟩
      rw [e2]; clear e2 f2
      refine V_if_ne 47 d_mo_letter_42 (by decide) (by omega) (fun c42 => ?_) (fun c42 => ?_)
      · skip
        refine V_aload_0 d_mo_letter_47 ?_
        refine V_getR d_mo_letter_48 fl_mo_96 is_mo r_mo_names ?_
        refine V_bipush 32 d_mo_letter_51 (by decide) ?_
        refine V_bipush 8 d_mo_letter_53 (by decide) ?_
        refine V_iload_1 d_mo_letter_55 ?_
        refine V_imul d_mo_letter_56 ?_
        refine V_iadd d_mo_letter_57 ?_
        refine V_iload_2 d_mo_letter_58 ?_
        refine V_iadd d_mo_letter_59 ?_
        refine V_lald d_mo_letter_60 is_mo_names (by omega) (by omega) ?_
        refine V_lstore_4 d_mo_letter_61 rfl ?_
        refine V_iconst 0 d_mo_letter_63 ?_
        refine V_istore_6 d_mo_letter_64 rfl ?_
        refine V_lload_4 d_mo_letter_66 ?_
        refine V_lstore_7 d_mo_letter_68 rfl ?_
        exact main (by omega)
      · skip
        refine V_iconst (-1) d_mo_letter_45 ?_
        refine V_ireturn d_mo_letter_46 (hR _ _ ?_)
        refine ⟨?_, rfl⟩
        unfold S_letter; rw [if_neg (by omega)]
end MO5
