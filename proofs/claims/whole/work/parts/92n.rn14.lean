/-! the reference reads statements -/
section RN14
variable {D : q_D} {f f' f'' S S' : q_F} {A : q_As} {g h : Int} {T : Int → Int} {N p e : Int} {L : List Int}
theorem mP.tr {F F' : q_F} {r : q_PR} (hz : mZ f F) (h : mP F F' T N r) : mP f F' T N r := ⟨hz.tr h.1, h.2⟩
theorem ok_statementTold (hT : mpS f T N (.inr (p, e))) (h2 : f 219 2 = p) (hw : mW f) (hE : mE f S L) (hW : pW S) (hsy : rsy S) (hL : (L.length : Int) ≤ p) (hLr : 0 < S 1 5 → S 106 (S 1 5) = L.length) (hs : 0 ≤ S 0 13 ∧ S 0 13 ≤ 90) : OkV D m_mo_statementTold [vr D 219] (Zg g h) f (fun f' => mP f f' T N (if S 0 13 = 90 then .inl (5, p) else sEnd T N (sStm false S T N L p e))) := by
  have hpr := hT.pr
  have hst := hE.2.1.2.2.2.2
  refine OkV_of (L0 := [vr D 219, vu]) mi_mo_statementTold rfl rfl (Nat.le_of_ble_eq_true rfl) (fun C hR => ?_)
  by_cases h90 : S 0 13 = 90
  · rw [if_pos h90] at hR
    refine V_aload_0 d_mo_statementTold_0 ?_
    refine V_getI d_mo_statementTold_1 fl_mo_191 is_mo ?_
    rw [h2]
    refine V_istore_1 d_mo_statementTold_4 rfl ?_
    refine V_aload_0 d_mo_statementTold_5 ?_
    refine V_getI d_mo_statementTold_6 fl_mo_264 is_mo ?_
    rw [hst]
    refine V_bipush 90 d_mo_statementTold_9 (by decide) ?_
    refine V_icmp_ne 21 d_mo_statementTold_11 (by decide) (by omega) (by omega) (fun c11 => by omega) (fun c11 => ?_)
    refine V_aload_0 d_mo_statementTold_14 ?_
    refine V_iconst 5 d_mo_statementTold_15 ?_
    refine V_iload_1 d_mo_statementTold_16 ?_
    refine V_cvV2 d_mo_statementTold_17 ml_mo_215 mv_mo_fail (by decide) (Nat.le_of_ble_eq_true rfl) is_mo (ok_mfail hT (by decide)) ?_
    rintro F2 ⟨t2, k2⟩
    refine V_return d_mo_statementTold_20 (hR _ ?_)
    exact ⟨k2.z, t2⟩
  · rw [if_neg h90] at hR
    have sok : ∀ S1 L1 q d, sStm false S T N L p e = .inr (S1, L1, q, d) → pW S1 := fun S1 L1 q d hq => (sStm_ok false hW (fun h => by cases h) hpr.1 hpr.2.1 hpr.2.2.2.1.2 hL hq).1
    have K154 : ∀ F : q_F, mP f F T N (sStm false S T N L p e) → V D C m_mo_statementTold 154 [vr D 219, vi p] [] (Zg g h) F := by
      intro F hP
      cases hr : sStm false S T N L p e with
      | inl e0 =>
        rw [hr] at hR hP
        have t1 : mpS F T N (.inl e0) := hP.2
        refine V_aload_0 d_mo_statementTold_154 ?_
        refine V_bipush 59 d_mo_statementTold_155 (by decide) ?_
        refine V_cvV1 d_mo_statementTold_157 ml_mo_260 mv_mo_asksSign (by decide) (Nat.le_of_ble_eq_true rfl) is_mo (ok_asksSign t1 (by decide)) ?_
        rintro F2 ⟨t2, k2⟩
        refine V_aload_0 d_mo_statementTold_160 ?_
        refine V_dup d_mo_statementTold_161 rfl ?_
        refine V_getI d_mo_statementTold_162 fl_mo_264 is_mo ?_
        refine V_iconst 1 d_mo_statementTold_165 ?_
        refine V_iadd d_mo_statementTold_166 ?_
        refine V_putI d_mo_statementTold_167 fl_mo_264 is_mo ?_
        refine V_return d_mo_statementTold_170 (hR _ ?_)
        exact ⟨(hP.1.tr k2.z).up (by first | exact rd219 (by omega) | exact rd246 (by omega) | exact rd247 (by omega) | exact rd248 (by omega) | exact rd249 (by omega) | exact rd250 (by omega) | exact rd251 (by omega) | exact rd252 (by omega) | exact rd253 (by omega) | exact rd254 (by omega) | exact rd257 (by omega) (by omega)), t2.fr (fun j i hji => by rw [q_up_ne (by omega)])⟩
      | inr u =>
        obtain ⟨S1, L1, q, d⟩ := u
        have hW1 := sok S1 L1 q d hr
        rw [hr] at hR hP
        have t1 : mpS F T N (.inr (q, d)) := hP.2.1
        have E1 : mE F S1 L1 := hP.2.2
        have hR : ∀ F', mP f F' T N (rb (l_sign T N 59 q d) (fun u => .inr (q_up S1 0 13 (S1 0 13 + 1), L1, u.1, u.2))) → _ := fun F' hF => hR F' hF
        cases hl : l_sign T N 59 q d with
        | inl e0 =>
          rw [hl] at hR
          refine V_aload_0 d_mo_statementTold_154 ?_
          refine V_bipush 59 d_mo_statementTold_155 (by decide) ?_
          refine V_cvV1 d_mo_statementTold_157 ml_mo_260 mv_mo_asksSign (by decide) (Nat.le_of_ble_eq_true rfl) is_mo (ok_asksSign t1 (by decide)) ?_
          rintro F2 ⟨t2, k2⟩
          have t2 : mpS F2 T N (l_sign T N 59 q d) := t2
          rw [hl] at t2
          refine V_aload_0 d_mo_statementTold_160 ?_
          refine V_dup d_mo_statementTold_161 rfl ?_
          refine V_getI d_mo_statementTold_162 fl_mo_264 is_mo ?_
          refine V_iconst 1 d_mo_statementTold_165 ?_
          refine V_iadd d_mo_statementTold_166 ?_
          refine V_putI d_mo_statementTold_167 fl_mo_264 is_mo ?_
          refine V_return d_mo_statementTold_170 (hR _ ?_)
          exact ⟨(hP.1.tr k2.z).up (by first | exact rd219 (by omega) | exact rd246 (by omega) | exact rd247 (by omega) | exact rd248 (by omega) | exact rd249 (by omega) | exact rd250 (by omega) | exact rd251 (by omega) | exact rd252 (by omega) | exact rd253 (by omega) | exact rd254 (by omega) | exact rd257 (by omega) (by omega)), t2.fr (fun j i hji => by rw [q_up_ne (by omega)])⟩
        | inr u =>
          rw [hl] at hR
          refine V_aload_0 d_mo_statementTold_154 ?_
          refine V_bipush 59 d_mo_statementTold_155 (by decide) ?_
          refine V_cvV1 d_mo_statementTold_157 ml_mo_260 mv_mo_asksSign (by decide) (Nat.le_of_ble_eq_true rfl) is_mo (ok_asksSign t1 (by decide)) ?_
          rintro F2 ⟨t2, k2⟩
          have t2 : mpS F2 T N (l_sign T N 59 q d) := t2
          rw [hl] at t2
          have s2 : F2 219 46 = S1 0 13 := by rw [k2 _ _ (by omega)]; exact E1.2.1.2.2.2.2
          refine V_aload_0 d_mo_statementTold_160 ?_
          refine V_dup d_mo_statementTold_161 rfl ?_
          refine V_getI d_mo_statementTold_162 fl_mo_264 is_mo ?_
          rw [s2]
          refine V_iconst 1 d_mo_statementTold_165 ?_
          refine V_iadd d_mo_statementTold_166 ?_
          refine V_putI d_mo_statementTold_167 fl_mo_264 is_mo ?_
          refine V_return d_mo_statementTold_170 (hR _ ?_)
          refine ⟨(hP.1.tr k2.z).up (by first | exact rd219 (by omega) | exact rd246 (by omega) | exact rd247 (by omega) | exact rd248 (by omega) | exact rd249 (by omega) | exact rd250 (by omega) | exact rd251 (by omega) | exact rd252 (by omega) | exact rd253 (by omega) | exact rd254 (by omega) | exact rd257 (by omega) (by omega)), t2.fr (fun j i hji => by rw [q_up_ne (by omega)]), ?_⟩
          exact E1.stm hW1 (Or.inl rfl) (fun j i a b => by rw [q_up_ne (by omega)]; exact k2 j i a) (q_up_eq _ _ _ _)
    have K135 : ∀ F : q_F, mK f F → mpS F T N (.inr (p, e)) → ¬ wd T N p e = 1 → ¬ wd T N p e = 2 → ¬ wd T N p e = 5 → ¬ wd T N p e = 6 → ¬ wd T N p e = 7 → ¬ wd T N p e = 13 → V D C m_mo_statementTold 135 [vr D 219, vi p] [] (Zg g h) F := by
      intro F k1 t1 n1 n2 n5 n6 n7 n13
      have hr : sStm false S T N L p e = if wd T N p e = 15 then lf L (sTithe S T N (sk T N (le T N p)) (le T N p)) else .inl (1, p) := by
        unfold sStm; rw [if_neg (by decide), if_neg n1, if_neg n2, if_neg n5, if_neg n6, if_neg n7, if_neg n13]
      have bad143 : ∀ (e0 : Int × Int) (F2 : q_F), sStm false S T N L p e = .inl e0 → mpS F2 T N (.inl e0) → mK f F2 → V D C m_mo_statementTold 143 [vr D 219, vi p] [] (Zg g h) F2 := by
        intro e0 F2 hr2 t2 k2
        refine V_aload_0 d_mo_statementTold_143 ?_
        refine V_aload_0 d_mo_statementTold_144 ?_
        refine V_iconst 0 d_mo_statementTold_145 ?_
        refine V_bipush 100 d_mo_statementTold_146 (by decide) ?_
        refine V_cvI2 d_mo_statementTold_148 ml_mo_256 mv_mo_number (by decide) (Nat.le_of_ble_eq_true rfl) is_mo (ok_number t2 (by decide) (by decide)) ?_
        rintro x F3 ⟨t3, k3, x3, -⟩
        have t3 : mpS F3 T N (.inl e0) := t3
        refine V_putI d_mo_statementTold_151 fl_mo_310 is_mo ?_
        refine K154 _ ?_
        rw [hr2]
        exact ⟨(k2.tr k3).z.up (by first | exact rd219 (by omega) | exact rd246 (by omega) | exact rd247 (by omega) | exact rd248 (by omega) | exact rd249 (by omega) | exact rd250 (by omega) | exact rd251 (by omega) | exact rd252 (by omega) | exact rd253 (by omega) | exact rd254 (by omega) | exact rd257 (by omega) (by omega)), t3.fr (fun j i hji => by rw [q_up_ne (by omega)])⟩
      by_cases h15 : wd T N p e = 15
      · rw [if_pos h15] at hr
        have hl : l_word T N 15 p e = .inr (sk T N (le T N p), le T N p) := by unfold l_word; rw [if_pos h15]
        have hrr : sStm false S T N L p e = lf L (rb (l_num T N 0 100 (sk T N (le T N p)) (le T N p)) (fun s => .inr (q_up S 0 14 s.1, s.2.1, s.2.2))) := hr
        cases hn : l_num T N 0 100 (sk T N (le T N p)) (le T N p) with
        | inl e0 =>
          rw [hn] at hrr
          refine V_aload_0 d_mo_statementTold_135 ?_
          refine V_aload_0 d_mo_statementTold_136 ?_
          refine V_getR d_mo_statementTold_137 fl_mo_63 is_mo r_mo_titheWord ?_
          refine V_cvV1 d_mo_statementTold_140 ml_mo_248 mv_mo_asks (by decide) (Nat.le_of_ble_eq_true rfl) is_mo (ok_askA t1 (hw.mk k1) 15 (by decide) rfl) ?_
          rintro F2 ⟨t2, k2⟩
          have t2 : mpS F2 T N (l_word T N 15 p e) := t2
          rw [hl] at t2
          refine V_aload_0 d_mo_statementTold_143 ?_
          refine V_aload_0 d_mo_statementTold_144 ?_
          refine V_iconst 0 d_mo_statementTold_145 ?_
          refine V_bipush 100 d_mo_statementTold_146 (by decide) ?_
          refine V_cvI2 d_mo_statementTold_148 ml_mo_256 mv_mo_number (by decide) (Nat.le_of_ble_eq_true rfl) is_mo (ok_number t2 (by decide) (by decide)) ?_
          rintro x F3 ⟨t3, k3, x3, -⟩
          have t3 : mpS F3 T N (pst (l_num T N 0 100 (sk T N (le T N p)) (le T N p))) := t3
          rw [hn] at t3
          have t3 : mpS F3 T N (.inl e0) := t3
          refine V_putI d_mo_statementTold_151 fl_mo_310 is_mo ?_
          refine K154 _ ?_
          rw [hrr]
          exact ⟨((k1.tr k2).tr k3).z.up (by first | exact rd219 (by omega) | exact rd246 (by omega) | exact rd247 (by omega) | exact rd248 (by omega) | exact rd249 (by omega) | exact rd250 (by omega) | exact rd251 (by omega) | exact rd252 (by omega) | exact rd253 (by omega) | exact rd254 (by omega) | exact rd257 (by omega) (by omega)), t3.fr (fun j i hji => by rw [q_up_ne (by omega)])⟩
        | inr u =>
          obtain ⟨v, q', d'⟩ := u
          rw [hn] at hrr
          refine V_aload_0 d_mo_statementTold_135 ?_
          refine V_aload_0 d_mo_statementTold_136 ?_
          refine V_getR d_mo_statementTold_137 fl_mo_63 is_mo r_mo_titheWord ?_
          refine V_cvV1 d_mo_statementTold_140 ml_mo_248 mv_mo_asks (by decide) (Nat.le_of_ble_eq_true rfl) is_mo (ok_askA t1 (hw.mk k1) 15 (by decide) rfl) ?_
          rintro F2 ⟨t2, k2⟩
          have t2 : mpS F2 T N (l_word T N 15 p e) := t2
          rw [hl] at t2
          refine V_aload_0 d_mo_statementTold_143 ?_
          refine V_aload_0 d_mo_statementTold_144 ?_
          refine V_iconst 0 d_mo_statementTold_145 ?_
          refine V_bipush 100 d_mo_statementTold_146 (by decide) ?_
          refine V_cvI2 d_mo_statementTold_148 ml_mo_256 mv_mo_number (by decide) (Nat.le_of_ble_eq_true rfl) is_mo (ok_number t2 (by decide) (by decide)) ?_
          rintro x F3 ⟨t3, k3, x3, x4⟩
          have t3 : mpS F3 T N (pst (l_num T N 0 100 (sk T N (le T N p)) (le T N p))) := t3
          rw [hn] at t3
          have t3 : mpS F3 T N (.inr (q', d')) := t3
          have x4 : x = v := x4 v q' d' hn
          rw [x4]
          refine V_putI d_mo_statementTold_151 fl_mo_310 is_mo ?_
          refine K154 _ ?_
          rw [hrr]
          refine ⟨((k1.tr k2).tr k3).z.up (by first | exact rd219 (by omega) | exact rd246 (by omega) | exact rd247 (by omega) | exact rd248 (by omega) | exact rd249 (by omega) | exact rd250 (by omega) | exact rd251 (by omega) | exact rd252 (by omega) | exact rd253 (by omega) | exact rd254 (by omega) | exact rd257 (by omega) (by omega)), t3.fr (fun j i hji => by rw [q_up_ne (by omega)]), ?_⟩
          exact hE.stm hW (Or.inr rfl) (fun j i a b => by rw [q_up_ne (by omega)]; exact ((k1.tr k2).tr k3) j i a) (q_up_eq _ _ _ _)
      · rw [if_neg h15] at hr
        have hl : l_word T N 15 p e = .inl (1, p) := by unfold l_word; rw [if_neg h15]
        refine V_aload_0 d_mo_statementTold_135 ?_
        refine V_aload_0 d_mo_statementTold_136 ?_
        refine V_getR d_mo_statementTold_137 fl_mo_63 is_mo r_mo_titheWord ?_
        refine V_cvV1 d_mo_statementTold_140 ml_mo_248 mv_mo_asks (by decide) (Nat.le_of_ble_eq_true rfl) is_mo (ok_askA t1 (hw.mk k1) 15 (by decide) rfl) ?_
        rintro F2 ⟨t2, k2⟩
        have t2 : mpS F2 T N (l_word T N 15 p e) := t2
        rw [hl] at t2
        exact bad143 (1, p) F2 hr t2 (k1.tr k2)
    have K116 : ∀ F : q_F, mK f F → mpS F T N (.inr (p, e)) → ¬ wd T N p e = 1 → ¬ wd T N p e = 2 → ¬ wd T N p e = 5 → ¬ wd T N p e = 6 → ¬ wd T N p e = 7 → V D C m_mo_statementTold 116 [vr D 219, vi p] [] (Zg g h) F := by
      intro F k1 t1 n1 n2 n5 n6 n7
      by_cases hwd : wd T N p e = 13
      · have hr : sStm false S T N L p e = bgn S T N 5 p (fun q d => sRule S T N L q d) := by
          unfold sStm; rw [if_neg (by decide), if_neg n1, if_neg n2, if_neg n5, if_neg n6, if_neg n7, if_pos hwd]
        refine V_aload_0 d_mo_statementTold_116 ?_
        refine V_aload_0 d_mo_statementTold_117 ?_
        refine V_getR d_mo_statementTold_118 fl_mo_57 is_mo r_mo_priceWord ?_
        refine V_cvI1 d_mo_statementTold_121 ml_mo_212 mv_mo_takes (by decide) (Nat.le_of_ble_eq_true rfl) is_mo (ok_tkA t1 (hw.mk k1) 13 (by decide) rfl) ?_
        rintro x F2 ⟨k2, ⟨rfl, h2, t2⟩ | ⟨rfl, h2, t2, -⟩⟩
        rotate_left
        exact absurd hwd h2
        refine V_if_eq 135 d_mo_statementTold_124 (by decide) (by omega) (fun c124 => by omega) (fun c124 => ?_)
        refine V_aload_0 d_mo_statementTold_127 ?_
        refine V_iload_1 d_mo_statementTold_128 ?_
        refine V_cvV1 d_mo_statementTold_129 ml_mo_307 mv_mo_priceTold (by decide) (Nat.le_of_ble_eq_true rfl) is_mo (ok_priceTold t2 (hw.mk (k1.tr k2)) (hE.mk hW (k1.tr k2)) hW (by have := wd_ge (T := T) (N := N) (p := p) (e := e) hpr.2.1 (by omega); omega) hLr) ?_
        rintro F3 hP
        refine V_goto 154 d_mo_statementTold_132 (by decide) ?_
        refine K154 F3 ?_
        rw [hr]
        exact mP.tr (k1.tr k2).z hP
      · skip
        refine V_aload_0 d_mo_statementTold_116 ?_
        refine V_aload_0 d_mo_statementTold_117 ?_
        refine V_getR d_mo_statementTold_118 fl_mo_57 is_mo r_mo_priceWord ?_
        refine V_cvI1 d_mo_statementTold_121 ml_mo_212 mv_mo_takes (by decide) (Nat.le_of_ble_eq_true rfl) is_mo (ok_tkA t1 (hw.mk k1) 13 (by decide) rfl) ?_
        rintro x F2 ⟨k2, ⟨rfl, h2, t2⟩ | ⟨rfl, h2, t2, -⟩⟩
        exact absurd h2 hwd
        refine V_if_eq 135 d_mo_statementTold_124 (by decide) (by omega) (fun c124 => ?_) (fun c124 => by omega)
        exact K135 F2 (k1.tr k2) t2 n1 n2 n5 n6 n7 hwd
    have K97 : ∀ F : q_F, mK f F → mpS F T N (.inr (p, e)) → ¬ wd T N p e = 1 → ¬ wd T N p e = 2 → ¬ wd T N p e = 5 → ¬ wd T N p e = 6 → V D C m_mo_statementTold 97 [vr D 219, vi p] [] (Zg g h) F := by
      intro F k1 t1 n1 n2 n5 n6
      by_cases hwd : wd T N p e = 7
      · have hr : sStm false S T N L p e = bgn S T N 4 p (fun q d => lf L (sSeen S T N q d)) := by
          unfold sStm; rw [if_neg (by decide), if_neg n1, if_neg n2, if_neg n5, if_neg n6, if_pos hwd]
        refine V_aload_0 d_mo_statementTold_97 ?_
        refine V_aload_0 d_mo_statementTold_98 ?_
        refine V_getR d_mo_statementTold_99 fl_mo_39 is_mo r_mo_seenWord ?_
        refine V_cvI1 d_mo_statementTold_102 ml_mo_212 mv_mo_takes (by decide) (Nat.le_of_ble_eq_true rfl) is_mo (ok_tkA t1 (hw.mk k1) 7 (by decide) rfl) ?_
        rintro x F2 ⟨k2, ⟨rfl, h2, t2⟩ | ⟨rfl, h2, t2, -⟩⟩
        rotate_left
        exact absurd hwd h2
        refine V_if_eq 116 d_mo_statementTold_105 (by decide) (by omega) (fun c105 => by omega) (fun c105 => ?_)
        refine V_aload_0 d_mo_statementTold_108 ?_
        refine V_iload_1 d_mo_statementTold_109 ?_
        refine V_cvV1 d_mo_statementTold_110 ml_mo_304 mv_mo_seenTold (by decide) (Nat.le_of_ble_eq_true rfl) is_mo (ok_seenTold t2 (hw.mk (k1.tr k2)) (hE.mk hW (k1.tr k2)) hW) ?_
        rintro F3 hP
        refine V_goto 154 d_mo_statementTold_113 (by decide) ?_
        refine K154 F3 ?_
        rw [hr]
        exact mP.tr (k1.tr k2).z hP
      · skip
        refine V_aload_0 d_mo_statementTold_97 ?_
        refine V_aload_0 d_mo_statementTold_98 ?_
        refine V_getR d_mo_statementTold_99 fl_mo_39 is_mo r_mo_seenWord ?_
        refine V_cvI1 d_mo_statementTold_102 ml_mo_212 mv_mo_takes (by decide) (Nat.le_of_ble_eq_true rfl) is_mo (ok_tkA t1 (hw.mk k1) 7 (by decide) rfl) ?_
        rintro x F2 ⟨k2, ⟨rfl, h2, t2⟩ | ⟨rfl, h2, t2, -⟩⟩
        exact absurd h2 hwd
        refine V_if_eq 116 d_mo_statementTold_105 (by decide) (by omega) (fun c105 => ?_) (fun c105 => by omega)
        exact K116 F2 (k1.tr k2) t2 n1 n2 n5 n6 hwd
    have K78 : ∀ F : q_F, mK f F → mpS F T N (.inr (p, e)) → ¬ wd T N p e = 1 → ¬ wd T N p e = 2 → ¬ wd T N p e = 5 → V D C m_mo_statementTold 78 [vr D 219, vi p] [] (Zg g h) F := by
      intro F k1 t1 n1 n2 n5
      by_cases hwd : wd T N p e = 6
      · have hr : sStm false S T N L p e = bgn S T N 6 p (fun q d => lf L (sRoad S T N q d)) := by
          unfold sStm; rw [if_neg (by decide), if_neg n1, if_neg n2, if_neg n5, if_pos hwd]
        refine V_aload_0 d_mo_statementTold_78 ?_
        refine V_aload_0 d_mo_statementTold_79 ?_
        refine V_getR d_mo_statementTold_80 fl_mo_36 is_mo r_mo_roadWord ?_
        refine V_cvI1 d_mo_statementTold_83 ml_mo_212 mv_mo_takes (by decide) (Nat.le_of_ble_eq_true rfl) is_mo (ok_tkA t1 (hw.mk k1) 6 (by decide) rfl) ?_
        rintro x F2 ⟨k2, ⟨rfl, h2, t2⟩ | ⟨rfl, h2, t2, -⟩⟩
        rotate_left
        exact absurd hwd h2
        refine V_if_eq 97 d_mo_statementTold_86 (by decide) (by omega) (fun c86 => by omega) (fun c86 => ?_)
        refine V_aload_0 d_mo_statementTold_89 ?_
        refine V_iload_1 d_mo_statementTold_90 ?_
        refine V_cvV1 d_mo_statementTold_91 ml_mo_301 mv_mo_roadTold (by decide) (Nat.le_of_ble_eq_true rfl) is_mo (ok_roadTold t2 (hw.mk (k1.tr k2)) (hE.mk hW (k1.tr k2)) hW hsy) ?_
        rintro F3 hP
        refine V_goto 154 d_mo_statementTold_94 (by decide) ?_
        refine K154 F3 ?_
        rw [hr]
        exact mP.tr (k1.tr k2).z hP
      · skip
        refine V_aload_0 d_mo_statementTold_78 ?_
        refine V_aload_0 d_mo_statementTold_79 ?_
        refine V_getR d_mo_statementTold_80 fl_mo_36 is_mo r_mo_roadWord ?_
        refine V_cvI1 d_mo_statementTold_83 ml_mo_212 mv_mo_takes (by decide) (Nat.le_of_ble_eq_true rfl) is_mo (ok_tkA t1 (hw.mk k1) 6 (by decide) rfl) ?_
        rintro x F2 ⟨k2, ⟨rfl, h2, t2⟩ | ⟨rfl, h2, t2, -⟩⟩
        exact absurd h2 hwd
        refine V_if_eq 97 d_mo_statementTold_86 (by decide) (by omega) (fun c86 => ?_) (fun c86 => by omega)
        exact K97 F2 (k1.tr k2) t2 n1 n2 n5 hwd
    have K59 : ∀ F : q_F, mK f F → mpS F T N (.inr (p, e)) → ¬ wd T N p e = 1 → ¬ wd T N p e = 2 → V D C m_mo_statementTold 59 [vr D 219, vi p] [] (Zg g h) F := by
      intro F k1 t1 n1 n2
      by_cases hwd : wd T N p e = 5
      · have hr : sStm false S T N L p e = bgn S T N 3 p (fun q d => lf L (sNew S T N 3 q d)) := by
          unfold sStm; rw [if_neg (by decide), if_neg n1, if_neg n2, if_pos hwd]
        refine V_aload_0 d_mo_statementTold_59 ?_
        refine V_aload_0 d_mo_statementTold_60 ?_
        refine V_getR d_mo_statementTold_61 fl_mo_33 is_mo r_mo_placeWord ?_
        refine V_cvI1 d_mo_statementTold_64 ml_mo_212 mv_mo_takes (by decide) (Nat.le_of_ble_eq_true rfl) is_mo (ok_tkA t1 (hw.mk k1) 5 (by decide) rfl) ?_
        rintro x F2 ⟨k2, ⟨rfl, h2, t2⟩ | ⟨rfl, h2, t2, -⟩⟩
        rotate_left
        exact absurd hwd h2
        refine V_if_eq 78 d_mo_statementTold_67 (by decide) (by omega) (fun c67 => by omega) (fun c67 => ?_)
        refine V_aload_0 d_mo_statementTold_70 ?_
        refine V_iload_1 d_mo_statementTold_71 ?_
        refine V_cvV1 d_mo_statementTold_72 ml_mo_298 mv_mo_placeTold (by decide) (Nat.le_of_ble_eq_true rfl) is_mo (ok_placeTold t2 (hw.mk (k1.tr k2)) (hE.mk hW (k1.tr k2)) hW) ?_
        rintro F3 hP
        refine V_goto 154 d_mo_statementTold_75 (by decide) ?_
        refine K154 F3 ?_
        rw [hr]
        exact mP.tr (k1.tr k2).z hP
      · skip
        refine V_aload_0 d_mo_statementTold_59 ?_
        refine V_aload_0 d_mo_statementTold_60 ?_
        refine V_getR d_mo_statementTold_61 fl_mo_33 is_mo r_mo_placeWord ?_
        refine V_cvI1 d_mo_statementTold_64 ml_mo_212 mv_mo_takes (by decide) (Nat.le_of_ble_eq_true rfl) is_mo (ok_tkA t1 (hw.mk k1) 5 (by decide) rfl) ?_
        rintro x F2 ⟨k2, ⟨rfl, h2, t2⟩ | ⟨rfl, h2, t2, -⟩⟩
        exact absurd h2 hwd
        refine V_if_eq 78 d_mo_statementTold_67 (by decide) (by omega) (fun c67 => ?_) (fun c67 => by omega)
        exact K78 F2 (k1.tr k2) t2 n1 n2 hwd
    have K40 : ∀ F : q_F, mK f F → mpS F T N (.inr (p, e)) → ¬ wd T N p e = 1 → V D C m_mo_statementTold 40 [vr D 219, vi p] [] (Zg g h) F := by
      intro F k1 t1 n1
      by_cases hwd : wd T N p e = 2
      · have hr : sStm false S T N L p e = bgn S T N 2 p (fun q d => lf L (sShade S T N q d)) := by
          unfold sStm; rw [if_neg (by decide), if_neg n1, if_pos hwd]
        refine V_aload_0 d_mo_statementTold_40 ?_
        refine V_aload_0 d_mo_statementTold_41 ?_
        refine V_getR d_mo_statementTold_42 fl_mo_24 is_mo r_mo_shadeWord ?_
        refine V_cvI1 d_mo_statementTold_45 ml_mo_212 mv_mo_takes (by decide) (Nat.le_of_ble_eq_true rfl) is_mo (ok_tkA t1 (hw.mk k1) 2 (by decide) rfl) ?_
        rintro x F2 ⟨k2, ⟨rfl, h2, t2⟩ | ⟨rfl, h2, t2, -⟩⟩
        rotate_left
        exact absurd hwd h2
        refine V_if_eq 59 d_mo_statementTold_48 (by decide) (by omega) (fun c48 => by omega) (fun c48 => ?_)
        refine V_aload_0 d_mo_statementTold_51 ?_
        refine V_iload_1 d_mo_statementTold_52 ?_
        refine V_cvV1 d_mo_statementTold_53 ml_mo_295 mv_mo_shadeTold (by decide) (Nat.le_of_ble_eq_true rfl) is_mo (ok_shadeTold t2 (hw.mk (k1.tr k2)) (hE.mk hW (k1.tr k2)) hW) ?_
        rintro F3 hP
        refine V_goto 154 d_mo_statementTold_56 (by decide) ?_
        refine K154 F3 ?_
        rw [hr]
        exact mP.tr (k1.tr k2).z hP
      · skip
        refine V_aload_0 d_mo_statementTold_40 ?_
        refine V_aload_0 d_mo_statementTold_41 ?_
        refine V_getR d_mo_statementTold_42 fl_mo_24 is_mo r_mo_shadeWord ?_
        refine V_cvI1 d_mo_statementTold_45 ml_mo_212 mv_mo_takes (by decide) (Nat.le_of_ble_eq_true rfl) is_mo (ok_tkA t1 (hw.mk k1) 2 (by decide) rfl) ?_
        rintro x F2 ⟨k2, ⟨rfl, h2, t2⟩ | ⟨rfl, h2, t2, -⟩⟩
        exact absurd h2 hwd
        refine V_if_eq 59 d_mo_statementTold_48 (by decide) (by omega) (fun c48 => ?_) (fun c48 => by omega)
        exact K59 F2 (k1.tr k2) t2 n1 hwd
    have K21 : ∀ F : q_F, mK f F → mpS F T N (.inr (p, e)) → V D C m_mo_statementTold 21 [vr D 219, vi p] [] (Zg g h) F := by
      intro F k1 t1 
      by_cases hwd : wd T N p e = 1
      · have hr : sStm false S T N L p e = bgn S T N 1 p (fun q d => lf L (sPerson S T N q d)) := by
          unfold sStm; rw [if_neg (by decide), if_pos hwd]
        refine V_aload_0 d_mo_statementTold_21 ?_
        refine V_aload_0 d_mo_statementTold_22 ?_
        refine V_getR d_mo_statementTold_23 fl_mo_21 is_mo r_mo_personWord ?_
        refine V_cvI1 d_mo_statementTold_26 ml_mo_212 mv_mo_takes (by decide) (Nat.le_of_ble_eq_true rfl) is_mo (ok_tkA t1 (hw.mk k1) 1 (by decide) rfl) ?_
        rintro x F2 ⟨k2, ⟨rfl, h2, t2⟩ | ⟨rfl, h2, t2, -⟩⟩
        rotate_left
        exact absurd hwd h2
        refine V_if_eq 40 d_mo_statementTold_29 (by decide) (by omega) (fun c29 => by omega) (fun c29 => ?_)
        refine V_aload_0 d_mo_statementTold_32 ?_
        refine V_iload_1 d_mo_statementTold_33 ?_
        refine V_cvV1 d_mo_statementTold_34 ml_mo_292 mv_mo_personTold (by decide) (Nat.le_of_ble_eq_true rfl) is_mo (ok_personTold t2 (hw.mk (k1.tr k2)) (hE.mk hW (k1.tr k2)) hW) ?_
        rintro F3 hP
        refine V_goto 154 d_mo_statementTold_37 (by decide) ?_
        refine K154 F3 ?_
        rw [hr]
        exact mP.tr (k1.tr k2).z hP
      · skip
        refine V_aload_0 d_mo_statementTold_21 ?_
        refine V_aload_0 d_mo_statementTold_22 ?_
        refine V_getR d_mo_statementTold_23 fl_mo_21 is_mo r_mo_personWord ?_
        refine V_cvI1 d_mo_statementTold_26 ml_mo_212 mv_mo_takes (by decide) (Nat.le_of_ble_eq_true rfl) is_mo (ok_tkA t1 (hw.mk k1) 1 (by decide) rfl) ?_
        rintro x F2 ⟨k2, ⟨rfl, h2, t2⟩ | ⟨rfl, h2, t2, -⟩⟩
        exact absurd h2 hwd
        refine V_if_eq 40 d_mo_statementTold_29 (by decide) (by omega) (fun c29 => ?_) (fun c29 => by omega)
        exact K40 F2 (k1.tr k2) t2  hwd
    refine V_aload_0 d_mo_statementTold_0 ?_
    refine V_getI d_mo_statementTold_1 fl_mo_191 is_mo ?_
    rw [h2]
    refine V_istore_1 d_mo_statementTold_4 rfl ?_
    refine V_aload_0 d_mo_statementTold_5 ?_
    refine V_getI d_mo_statementTold_6 fl_mo_264 is_mo ?_
    rw [hst]
    refine V_bipush 90 d_mo_statementTold_9 (by decide) ?_
    refine V_icmp_ne 21 d_mo_statementTold_11 (by decide) (by omega) (by omega) (fun c11 => ?_) (fun c11 => by omega)
    exact K21 f (mK.refl f) hT
end RN14
