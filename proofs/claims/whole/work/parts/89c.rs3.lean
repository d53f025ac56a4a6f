/-! the reference reads sums: one part -/
section RS3
variable {D : q_D} {f f' : q_F} {A : q_As} {g h : Int} {T : Int → Int} {N p e : Int}
theorem mR.bd {K L : List Int} {o : Int} (hM : mR f T N K L o p e) : 0 ≤ f 219 48 ∧ f 219 48 ≤ 1600 := by
  have := hM.rg
  have h := hM.2.2.1.1
  omega
theorem ok_onePart {n : Nat} {K0 : List Int} {o0 : Int} {X : q_R (List Int × Int × Int)} (hSt : mSt f T N true K0 o0 (n + 1) X) (hw : mW f) (h0 : 0 ≤ o0) : OkV D m_mo_onePart [vr D 219] (Zg g h) f (fun f' => ((∃ e0, X = .inl e0 ∧ mBd f' T N e0) ∨ mSt f' T N false K0 o0 n X) ∧ mQ f f') := by
  refine OkV_of (L0 := [vr D 219, vu, vu, vu, vu]) mi_mo_onePart rfl rfl (Nat.le_of_ble_eq_true rfl) (fun C hR => ?_)
  have KB : ∀ (F : q_F) (e0 : Int × Int) (u2 u3 u4 : Value), X = .inl e0 → mBd F T N e0 → mQ f F → V D C m_mo_onePart 2 [vr D 219, vi 1, u2, u3, u4] [] (Zg g h) F := by
    intro F e0 u2 u3 u4 hX hB hq
    have hb := hB.1.2.2.2
    refine V_iload_1 d_mo_onePart_2 ?_
    refine V_if_eq 146 d_mo_onePart_3 (by decide) (by omega) (fun c3 => by omega) (fun c3 => ?_)
    refine V_aload_0 d_mo_onePart_6 ?_
    refine V_getI d_mo_onePart_7 fl_mo_185 is_mo ?_
    rw [hb.1]
    refine V_if_ne 146 d_mo_onePart_10 (by decide) (by omega) (fun c10 => ?_) (fun c10 => by omega)
    refine V_aload_0 d_mo_onePart_146 ?_
    refine V_getI d_mo_onePart_147 fl_mo_185 is_mo ?_
    rw [hb.1]
    refine V_if_eq 154 d_mo_onePart_150 (by decide) (by omega) (fun c150 => by omega) (fun c150 => ?_)
    refine V_return d_mo_onePart_153 (hR _ ?_)
    exact ⟨Or.inl ⟨e0, hX, hB⟩, hq⟩
  have loop : ∀ (m : Nat) (K L : List Int) (o p e : Int) (F : q_F) (u2 u3 u4 : Value), mch T N m true K L o p e = some X → m ≤ n + 1 → mR F T N (K ++ K0) L o p e → o = o0 + nMk K → o ≤ 6 → mQ f F → V D C m_mo_onePart 2 [vr D 219, vi 1, u2, u3, u4] [] (Zg g h) F := by
    intro m
    induction m with
    | zero => intro K L o p e F u2 u3 u4 hch; cases hch
    | succ m ih =>
      intro K L o p e F u2 u3 u4 hch hm hM ho ho6 hq
      have hrg := hM.rg
      have hlk := lk_rg hM.1.1 hrg.1
      have hwr := wd_rg (T := T) (N := N) p e
      have hnm := nMk_rg K
      have hR1 : mR (q_up F 219 2 p) T N (K ++ K0) L o p e := hM.mk ((mK.refl F).up (by decide)) hM.1.pl (Int.le_refl _)
      have hq1 : mQ f (q_up F 219 2 p) := hq.tr ((mK.refl F).up (by decide)).q
      have hbd := hM.2.2.2.1
      have hb5 := hM.1.2.2.2.1
      unfold mch at hch
      by_cases hl : lk T N p = 40
      · rw [if_pos hl] at hch
        have hpN := (lk_of (by decide) hl).1
        have hsk := sk_ge (T := T) hpN
        by_cases ho5 : o < 6
        · rw [if_pos ho5] at hch
          refine V_iload_1 d_mo_onePart_2 ?_
          refine V_if_eq 146 d_mo_onePart_3 (by decide) (by omega) (fun c3 => by omega) (fun c3 => ?_)
          refine V_aload_0 d_mo_onePart_6 ?_
          refine V_getI d_mo_onePart_7 fl_mo_185 is_mo ?_
          rw [hb5]
          refine V_if_ne 146 d_mo_onePart_10 (by decide) (by omega) (fun c10 => by omega) (fun c10 => ?_)
          refine V_aload_0 d_mo_onePart_13 ?_
          refine V_cvI0 d_mo_onePart_14 ml_mo_197 mv_mo_look (by decide) (Nat.le_of_ble_eq_true rfl) is_mo (ok_look hM.1) ?_
          rintro _ f2 ⟨rfl, e2⟩
          rw [e2]; clear e2 f2
          refine V_istore_2 d_mo_onePart_17 rfl ?_
          refine V_iload_2 d_mo_onePart_18 ?_
          refine V_bipush 40 d_mo_onePart_19 (by decide) ?_
          refine V_icmp_ne 47 d_mo_onePart_21 (by decide) (by omega) (by omega) (fun c21 => by omega) (fun c21 => ?_)
          refine V_aload_0 d_mo_onePart_24 ?_
          refine V_bipush 20 d_mo_onePart_25 (by decide) ?_
          refine V_aload_0 d_mo_onePart_27 ?_
          refine V_getI d_mo_onePart_28 fl_mo_191 is_mo ?_
          rw [q_up_eq]
          refine V_cvV2 d_mo_onePart_31 ml_mo_356 mv_mo_opens (by decide) (Nat.le_of_ble_eq_true rfl) is_mo (ok_opens hR1 (by omega) (by decide)) ?_
          rintro F2 h2
          obtain ⟨-, w1, w2, w3⟩ := h2.resolve_right (fun h => h.1 ho5)
          have e2 : F2 219 2 = p := by rw [w3 _ _ (by decide) (by decide), q_up_eq]
          have t2 : mpS F2 T N (.inr (p, e)) := hR1.1.fr (fun j k hj => w3 j k (by omega) (by omega))
          refine V_aload_0 d_mo_onePart_34 ?_
          refine V_dup d_mo_onePart_35 rfl ?_
          refine V_getI d_mo_onePart_36 fl_mo_191 is_mo ?_
          rw [e2]
          refine V_iconst 1 d_mo_onePart_39 ?_
          refine V_iadd d_mo_onePart_40 ?_
          refine V_putI d_mo_onePart_41 fl_mo_191 is_mo ?_
          refine V_goto 143 d_mo_onePart_44 (by decide) ?_
          refine V_goto 2 d_mo_onePart_143 (by decide) ?_
          refine ih (20 :: K) L (o + 1) _ _ _ _ _ _ hch (by omega) ⟨t2.next (by decide) hl, ?_, ?_, ?_, ?_⟩ ?_ (by omega) ?_
          · exact w1.fr (fun j k hj => q_up_ne (by omega))
          · exact hR1.2.2.1.fr (fun j k hj => by rw [q_up_ne (by omega), w3 j k (by omega) (by omega)])
          · rw [q_up_ne (Or.inr (by decide))]; exact w2
          · rw [List.cons_append, List.length_cons]; push_cast; omega
          · show o + 1 = o0 + ((if isMk 20 then 1 else 0) + nMk K)
            rw [show isMk 20 = true from rfl, if_pos rfl]; omega
          · refine hq1.tr (fun j k a b c => ?_)
            rw [q_up_ne (by omega), w3 j k c (by omega)]
        · rw [if_neg ho5] at hch
          cases hch
          refine V_iload_1 d_mo_onePart_2 ?_
          refine V_if_eq 146 d_mo_onePart_3 (by decide) (by omega) (fun c3 => by omega) (fun c3 => ?_)
          refine V_aload_0 d_mo_onePart_6 ?_
          refine V_getI d_mo_onePart_7 fl_mo_185 is_mo ?_
          rw [hb5]
          refine V_if_ne 146 d_mo_onePart_10 (by decide) (by omega) (fun c10 => by omega) (fun c10 => ?_)
          refine V_aload_0 d_mo_onePart_13 ?_
          refine V_cvI0 d_mo_onePart_14 ml_mo_197 mv_mo_look (by decide) (Nat.le_of_ble_eq_true rfl) is_mo (ok_look hM.1) ?_
          rintro _ f2 ⟨rfl, e2⟩
          rw [e2]; clear e2 f2
          refine V_istore_2 d_mo_onePart_17 rfl ?_
          refine V_iload_2 d_mo_onePart_18 ?_
          refine V_bipush 40 d_mo_onePart_19 (by decide) ?_
          refine V_icmp_ne 47 d_mo_onePart_21 (by decide) (by omega) (by omega) (fun c21 => by omega) (fun c21 => ?_)
          refine V_aload_0 d_mo_onePart_24 ?_
          refine V_bipush 20 d_mo_onePart_25 (by decide) ?_
          refine V_aload_0 d_mo_onePart_27 ?_
          refine V_getI d_mo_onePart_28 fl_mo_191 is_mo ?_
          rw [q_up_eq]
          refine V_cvV2 d_mo_onePart_31 ml_mo_356 mv_mo_opens (by decide) (Nat.le_of_ble_eq_true rfl) is_mo (ok_opens hR1 (by omega) (by decide)) ?_
          rintro F2 h2
          obtain ⟨-, w1, w2⟩ := h2.resolve_left (fun h => ho5 h.1)
          refine V_aload_0 d_mo_onePart_34 ?_
          refine V_dup d_mo_onePart_35 rfl ?_
          refine V_getI d_mo_onePart_36 fl_mo_191 is_mo ?_
          refine V_iconst 1 d_mo_onePart_39 ?_
          refine V_iadd d_mo_onePart_40 ?_
          refine V_putI d_mo_onePart_41 fl_mo_191 is_mo ?_
          refine V_goto 143 d_mo_onePart_44 (by decide) ?_
          refine V_goto 2 d_mo_onePart_143 (by decide) ?_
          refine KB _ (4, p) _ _ _ rfl ⟨w1.fr2 _, ?_⟩ ?_
          · have := hR1.bd
            rw [q_up_ne (Or.inr (by decide)), w2 _ _ (by decide)]; omega
          · exact (hq1.tr w2.q).tr ((mK.refl F2).up (by decide)).q
      · rw [if_neg hl] at hch
        by_cases hw2 : wd T N p e = 23 ∨ wd T N p e = 24
        · rw [if_pos hw2] at hch
          have hge := wd_ge (T := T) hrg.2.1 (e := e) (by omega)
          have K90 : ∀ (F3 : q_F) (x3 : Int) (u2 u4 : Value), ((x3 = 1 ∧ wd T N p e = 23) ∨ (x3 = 0 ∧ wd T N p e = 24)) → mR F3 T N (K ++ K0) L o (sk T N (le T N p)) (le T N p) → mQ f F3 → u2.category = 1 → V D C m_mo_onePart 90 [vr D 219, vi 1, u2, vi x3, u4] [] (Zg g h) F3 := by
            intro F3 x3 u2 u4 hx3 hR3 hq3 hu2
            have hlk3 := lk_rg hR3.1.1 hR3.rg.1
            have hR4 : mR (q_up F3 219 2 (sk T N (le T N p))) T N (K ++ K0) L o (sk T N (le T N p)) (le T N p) := hR3.mk ((mK.refl F3).up (by decide)) hR3.1.pl (Int.le_refl _)
            have hq4 : mQ f (q_up F3 219 2 (sk T N (le T N p))) := hq3.tr ((mK.refl F3).up (by decide)).q
            by_cases hl2 : lk T N (sk T N (le T N p)) = 40
            · rw [if_pos hl2] at hch
              have hpN := (lk_of (by decide) hl2).1
              have hsk := sk_ge (T := T) hpN
              have hsg : l_sign T N 40 (sk T N (le T N p)) (le T N p) = .inr (sk T N (sk T N (le T N p) + 1), le T N p) := by unfold l_sign; rw [if_pos hl2]
              have K129 : ∀ (w : Int) (u2 u3 : Value) (v4 : Int), w = (if wd T N p e = 23 then 21 else 22) → V D C m_mo_onePart 129 [vr D 219, vi 1, u2, u3, vi v4] [vi (sk T N (le T N p)), vi w, vr D 219] (Zg g h) (q_up F3 219 2 (sk T N (le T N p))) := by
                intro w u2 u3 v4 hww
                have hwk : (0 ≤ w ∧ w ≤ 25) ∧ isMk w = true := by rw [hww]; rcases hw2 with h | h <;> rw [h] <;> decide
                by_cases ho5 : o < 6
                · rw [if_pos ho5, ← hww] at hch
                  refine V_cvV2 d_mo_onePart_129 ml_mo_356 mv_mo_opens (by decide) (Nat.le_of_ble_eq_true rfl) is_mo (ok_opens hR4 (by omega) hwk.1) ?_
                  rintro F5 h5
                  obtain ⟨-, w1, w2, w3⟩ := h5.resolve_right (fun h => h.1 ho5)
                  have t5 : mpS F5 T N (.inr (sk T N (le T N p), le T N p)) := hR4.1.fr (fun j k hj => w3 j k (by omega) (by omega))
                  refine V_aload_0 d_mo_onePart_132 ?_
                  refine V_bipush 40 d_mo_onePart_133 (by decide) ?_
                  refine V_cvV1 d_mo_onePart_135 ml_mo_260 mv_mo_asksSign (by decide) (Nat.le_of_ble_eq_true rfl) is_mo (ok_asksSign t5 (by decide)) ?_
                  rintro F6 ⟨t6, k6⟩
                  have t7 : mpS F6 T N (l_sign T N 40 (sk T N (le T N p)) (le T N p)) := t6
                  rw [hsg] at t7
                  refine V_goto 143 d_mo_onePart_138 (by decide) ?_
                  refine V_goto 2 d_mo_onePart_143 (by decide) ?_
                  refine ih (w :: K) L (o + 1) _ _ _ _ _ _ hch (by omega) ⟨t7, ?_, ?_, ?_, ?_⟩ ?_ (by omega) ?_
                  · exact w1.fr (fun j k hj => k6 j k (by omega))
                  · exact hR4.2.2.1.fr (fun j k hj => by rw [k6 j k (by omega), w3 j k (by omega) (by omega)])
                  · rw [k6 _ _ (by decide)]; exact w2
                  · rw [List.cons_append, List.length_cons]; push_cast; omega
                  · show o + 1 = o0 + ((if isMk w then 1 else 0) + nMk K)
                    rw [hwk.2, if_pos rfl]; omega
                  · refine (hq4.tr (fun j k a b c => ?_)).tr k6.q
                    exact w3 j k c (by omega)
                · rw [if_neg ho5] at hch
                  cases hch
                  refine V_cvV2 d_mo_onePart_129 ml_mo_356 mv_mo_opens (by decide) (Nat.le_of_ble_eq_true rfl) is_mo (ok_opens hR4 (by omega) hwk.1) ?_
                  rintro F5 h5
                  obtain ⟨-, w1, w2⟩ := h5.resolve_left (fun h => ho5 h.1)
                  refine V_aload_0 d_mo_onePart_132 ?_
                  refine V_bipush 40 d_mo_onePart_133 (by decide) ?_
                  refine V_cvV1 d_mo_onePart_135 ml_mo_260 mv_mo_asksSign (by decide) (Nat.le_of_ble_eq_true rfl) is_mo (ok_asksSign w1 (by decide)) ?_
                  rintro F6 ⟨t6, k6⟩
                  refine V_goto 143 d_mo_onePart_138 (by decide) ?_
                  refine V_goto 2 d_mo_onePart_143 (by decide) ?_
                  refine KB _ (4, _) _ _ _ rfl ⟨t6, ?_⟩ ?_
                  · have := hR4.bd
                    rw [k6 _ _ (by decide), w2 _ _ (by decide)]; omega
                  · exact (hq4.tr w2.q).tr k6.q
              rcases hx3 with ⟨rfl, hwd⟩ | ⟨rfl, hwd⟩
              · skip
                refine V_aload_0 d_mo_onePart_90 ?_
                refine V_cvI0 d_mo_onePart_91 ml_mo_197 mv_mo_look (by decide) (Nat.le_of_ble_eq_true rfl) is_mo (ok_look hR3.1) ?_
                rintro _ f2 ⟨rfl, e2⟩
                rw [e2]; clear e2 f2
                refine V_bipush 40 d_mo_onePart_94 (by decide) ?_
                refine V_icmp_ne 106 d_mo_onePart_96 (by decide) (by omega) (by omega) (fun c96 => by omega) (fun c96 => ?_)
                refine V_aload_0 d_mo_onePart_99 ?_
                refine V_getI d_mo_onePart_100 fl_mo_191 is_mo ?_
                rw [q_up_eq]
                refine V_goto 107 d_mo_onePart_103 (by decide) ?_
                refine V_istore_4 d_mo_onePart_107 rfl ?_
                refine V_iload_4 d_mo_onePart_109 ?_
                refine V_iconst (-1) d_mo_onePart_111 ?_
                refine V_icmp_eq 132 d_mo_onePart_112 (by decide) (by omega) (by omega) (fun c112 => by omega) (fun c112 => ?_)
                refine V_aload_0 d_mo_onePart_115 ?_
                refine V_iload_3 d_mo_onePart_116 ?_
                refine V_if_eq 125 d_mo_onePart_117 (by decide) (by omega) (fun c117 => by omega) (fun c117 => ?_)
                refine V_bipush 21 d_mo_onePart_120 (by decide) ?_
                refine V_goto 127 d_mo_onePart_122 (by decide) ?_
                refine V_iload_4 d_mo_onePart_127 ?_
                exact K129 21 _ _ _ (by rw [hwd]; rfl)
              · skip
                refine V_aload_0 d_mo_onePart_90 ?_
                refine V_cvI0 d_mo_onePart_91 ml_mo_197 mv_mo_look (by decide) (Nat.le_of_ble_eq_true rfl) is_mo (ok_look hR3.1) ?_
                rintro _ f2 ⟨rfl, e2⟩
                rw [e2]; clear e2 f2
                refine V_bipush 40 d_mo_onePart_94 (by decide) ?_
                refine V_icmp_ne 106 d_mo_onePart_96 (by decide) (by omega) (by omega) (fun c96 => by omega) (fun c96 => ?_)
                refine V_aload_0 d_mo_onePart_99 ?_
                refine V_getI d_mo_onePart_100 fl_mo_191 is_mo ?_
                rw [q_up_eq]
                refine V_goto 107 d_mo_onePart_103 (by decide) ?_
                refine V_istore_4 d_mo_onePart_107 rfl ?_
                refine V_iload_4 d_mo_onePart_109 ?_
                refine V_iconst (-1) d_mo_onePart_111 ?_
                refine V_icmp_eq 132 d_mo_onePart_112 (by decide) (by omega) (by omega) (fun c112 => by omega) (fun c112 => ?_)
                refine V_aload_0 d_mo_onePart_115 ?_
                refine V_iload_3 d_mo_onePart_116 ?_
                refine V_if_eq 125 d_mo_onePart_117 (by decide) (by omega) (fun c117 => ?_) (fun c117 => by omega)
                refine V_bipush 22 d_mo_onePart_125 (by decide) ?_
                refine V_iload_4 d_mo_onePart_127 ?_
                exact K129 22 _ _ _ (by rw [hwd]; rfl)
            · rw [if_neg hl2] at hch
              cases hch
              have hsg : l_sign T N 40 (sk T N (le T N p)) (le T N p) = .inl (1, sk T N (le T N p)) := by unfold l_sign; rw [if_neg hl2]
              refine V_aload_0 d_mo_onePart_90 ?_
              refine V_cvI0 d_mo_onePart_91 ml_mo_197 mv_mo_look (by decide) (Nat.le_of_ble_eq_true rfl) is_mo (ok_look hR3.1) ?_
              rintro _ f2 ⟨rfl, e2⟩
              rw [e2]; clear e2 f2
              refine V_bipush 40 d_mo_onePart_94 (by decide) ?_
              refine V_icmp_ne 106 d_mo_onePart_96 (by decide) (by omega) (by omega) (fun c96 => ?_) (fun c96 => by omega)
              refine V_iconst (-1) d_mo_onePart_106 ?_
              refine V_istore_4 d_mo_onePart_107 rfl ?_
              refine V_iload_4 d_mo_onePart_109 ?_
              refine V_iconst (-1) d_mo_onePart_111 ?_
              refine V_icmp_eq 132 d_mo_onePart_112 (by decide) (by omega) (by omega) (fun c112 => ?_) (fun c112 => by omega)
              refine V_aload_0 d_mo_onePart_132 ?_
              refine V_bipush 40 d_mo_onePart_133 (by decide) ?_
              refine V_cvV1 d_mo_onePart_135 ml_mo_260 mv_mo_asksSign (by decide) (Nat.le_of_ble_eq_true rfl) is_mo (ok_asksSign hR4.1 (by decide)) ?_
              rintro F6 ⟨t6, k6⟩
              have t7 : mpS F6 T N (l_sign T N 40 (sk T N (le T N p)) (le T N p)) := t6
              rw [hsg] at t7
              refine V_goto 143 d_mo_onePart_138 (by decide) ?_
              refine V_goto 2 d_mo_onePart_143 (by decide) ?_
              refine KB _ (1, _) _ _ _ rfl ⟨t7, ?_⟩ ?_
              · have := hR4.bd
                rw [k6 _ _ (by decide)]; omega
              · exact hq4.tr k6.q
          have K69 : ∀ (u3 u4 : Value) (v2 : Int), V D C m_mo_onePart 69 [vr D 219, vi 1, vi v2, u3, u4] [] (Zg g h) (q_up F 219 2 p) := by
            intro u3 u4 v2
            have hwW : mW (q_up F 219 2 p) := hw.q hq1
            by_cases h23 : wd T N p e = 23
            · skip
              refine V_aload_0 d_mo_onePart_69 ?_
              refine V_aload_0 d_mo_onePart_70 ?_
              refine V_getR d_mo_onePart_71 fl_mo_87 is_mo r_mo_minWord ?_
              refine V_cvI1 d_mo_onePart_74 ml_mo_212 mv_mo_takes (by decide) (Nat.le_of_ble_eq_true rfl) is_mo (ok_tkA hR1.1 hwW 23 (by decide) rfl) ?_
              rintro x F2 ⟨hk2, hx⟩
              obtain ⟨rfl, -, t2⟩ := hx.resolve_right (fun h => h.2.1 (by rw [h23]; rfl))
              refine V_istore_3 d_mo_onePart_77 rfl ?_
              refine V_iload_3 d_mo_onePart_78 ?_
              refine V_if_ne 90 d_mo_onePart_79 (by decide) (by omega) (fun c79 => ?_) (fun c79 => by omega)
              exact K90 _ _ _ _ (Or.inl ⟨rfl, h23⟩) (hR1.mk hk2 t2 (by omega)) (hq1.tr hk2.q) rfl
            · have h24 : wd T N p e = 24 := by omega
              have hlw : l_word T N ((24 : Nat) : Int) p e = .inr (sk T N (le T N p), le T N p) := by unfold l_word; rw [if_pos (by rw [h24]; rfl)]
              refine V_aload_0 d_mo_onePart_69 ?_
              refine V_aload_0 d_mo_onePart_70 ?_
              refine V_getR d_mo_onePart_71 fl_mo_87 is_mo r_mo_minWord ?_
              refine V_cvI1 d_mo_onePart_74 ml_mo_212 mv_mo_takes (by decide) (Nat.le_of_ble_eq_true rfl) is_mo (ok_tkA hR1.1 hwW 23 (by decide) rfl) ?_
              rintro x F2 ⟨hk2, hx⟩
              obtain ⟨rfl, -, t2, -⟩ := hx.resolve_left (fun h => by have := h.2.1; rw [h24] at this; exact absurd this (by decide))
              refine V_istore_3 d_mo_onePart_77 rfl ?_
              refine V_iload_3 d_mo_onePart_78 ?_
              refine V_if_ne 90 d_mo_onePart_79 (by decide) (by omega) (fun c79 => by omega) (fun c79 => ?_)
              refine V_aload_0 d_mo_onePart_82 ?_
              refine V_aload_0 d_mo_onePart_83 ?_
              refine V_getR d_mo_onePart_84 fl_mo_90 is_mo r_mo_maxWord ?_
              refine V_cvV1 d_mo_onePart_87 ml_mo_248 mv_mo_asks (by decide) (Nat.le_of_ble_eq_true rfl) is_mo (ok_askA t2 (hwW.mk hk2) 24 (by decide) rfl) ?_
              rintro F3 ⟨t3, k3⟩
              have t4 : mpS F3 T N (l_word T N ((24 : Nat) : Int) p e) := t3
              rw [hlw] at t4
              exact K90 _ _ _ _ (Or.inr ⟨rfl, h24⟩) (hR1.mk (hk2.tr k3) t4 (by omega)) (hq1.tr (hk2.tr k3).q) rfl
          have hwW : mW (q_up F 219 2 p) := hw.q hq1
          refine V_iload_1 d_mo_onePart_2 ?_
          refine V_if_eq 146 d_mo_onePart_3 (by decide) (by omega) (fun c3 => by omega) (fun c3 => ?_)
          refine V_aload_0 d_mo_onePart_6 ?_
          refine V_getI d_mo_onePart_7 fl_mo_185 is_mo ?_
          rw [hb5]
          refine V_if_ne 146 d_mo_onePart_10 (by decide) (by omega) (fun c10 => by omega) (fun c10 => ?_)
          refine V_aload_0 d_mo_onePart_13 ?_
          refine V_cvI0 d_mo_onePart_14 ml_mo_197 mv_mo_look (by decide) (Nat.le_of_ble_eq_true rfl) is_mo (ok_look hM.1) ?_
          rintro _ f2 ⟨rfl, e2⟩
          rw [e2]; clear e2 f2
          refine V_istore_2 d_mo_onePart_17 rfl ?_
          refine V_iload_2 d_mo_onePart_18 ?_
          refine V_bipush 40 d_mo_onePart_19 (by decide) ?_
          refine V_icmp_ne 47 d_mo_onePart_21 (by decide) (by omega) (by omega) (fun c21 => ?_) (fun c21 => by omega)
          refine V_aload_0 d_mo_onePart_47 ?_
          refine V_aload_0 d_mo_onePart_48 ?_
          refine V_getR d_mo_onePart_49 fl_mo_87 is_mo r_mo_minWord ?_
          refine V_cvI1 d_mo_onePart_52 ml_mo_208 mv_mo_isHere (by decide) (Nat.le_of_ble_eq_true rfl) is_mo (ok_hereA hR1.1 hwW 23 (by decide) rfl) ?_
          rintro x52 f2 ⟨hx52, e2⟩
          rw [e2]; clear e2 f2
          rw [q_up_up]
          refine V_if_ne 69 d_mo_onePart_55 (by decide) (by rcases hx52 with h | h <;> omega) (fun c55 => ?_) (fun c55 => ?_)
          · skip
            exact K69 _ _ _
          · skip
            refine V_aload_0 d_mo_onePart_58 ?_
            refine V_aload_0 d_mo_onePart_59 ?_
            refine V_getR d_mo_onePart_60 fl_mo_90 is_mo r_mo_maxWord ?_
            refine V_cvI1 d_mo_onePart_63 ml_mo_208 mv_mo_isHere (by decide) (Nat.le_of_ble_eq_true rfl) is_mo (ok_hereA hR1.1 hwW 24 (by decide) rfl) ?_
            rintro x63 f2 ⟨hx63, e2⟩
            rw [e2]; clear e2 f2
            rw [q_up_up]
            refine V_if_eq 141 d_mo_onePart_66 (by decide) (by rcases hx63 with h | h <;> omega) (fun c66 => ?_) (fun c66 => ?_)
            · skip
              have a1 := q_b0 hx52 (by omega)
              have a2 := q_b0 hx63 (by omega)
              exact absurd hw2 (fun h => h.elim a1 a2)
            · skip
              exact K69 _ _ _
        · rw [if_neg hw2] at hch
          have hwW : mW (q_up F 219 2 p) := hw.q hq1
          have K259v : ∀ (F3 : q_F) (c : Int) (u3 u4 : Value), isV (wd T N p e) → c = wcd (wd T N p e) → mpS F3 T N (.inr (sk T N (le T N p), le T N p)) → mK (q_up F 219 2 p) F3 → V D C m_mo_onePart 259 [vr D 219, vi 0, vi c, u3, u4] [] (Zg g h) F3 := by
            intro F3 c u3 u4 hv hc t3 k3
            have hge := wd_ge (T := T) hrg.2.1 (e := e) (by unfold isV at hv; omega)
            have hR3 := hR1.mk k3 t3 (by omega)
            have hcr : 0 ≤ c ∧ c ≤ 20 := by
              rw [hc]; unfold isV at hv
              rcases hv with h | h | h | h | h | h <;> rw [h] <;> decide
            rw [if_pos hv] at hch
            refine V_aload_0 d_mo_onePart_259 ?_
            refine V_iload_2 d_mo_onePart_260 ?_
            refine V_iconst (-1) d_mo_onePart_261 ?_
            refine V_icmp_eq 269 d_mo_onePart_262 (by decide) (by omega) (by omega) (fun c262 => by omega) (fun c262 => ?_)
            refine V_iload_2 d_mo_onePart_265 ?_
            refine V_goto 281 d_mo_onePart_266 (by decide) ?_
            refine V_cvV1 d_mo_onePart_281 ml_mo_347 mv_mo_code (by decide) (Nat.le_of_ble_eq_true rfl) is_mo (ok_code hR3.2.2.1 (by omega)) ?_
            rintro F4 ⟨c4, k4⟩
            refine V_return d_mo_onePart_284 (hR _ ?_)
            refine ⟨Or.inr ⟨m, K, _, o, _, _, by omega, hch, ⟨hR3.1.fr (fun j k hj => k4 j k (by omega) (by omega)), hR3.2.1.fr (fun j k hj => k4 j k (by omega) (by omega)), ?_, by rw [k4 _ _ (by decide) (by decide)]; exact hR3.2.2.2.1, ?_⟩, ho, ho6⟩, (hq1.tr k3.q).tr (fun j k a b c => k4 j k b (by omega))⟩
            · rw [← hc]; exact c4
            · rw [List.length_append, List.length_cons, List.length_nil]; push_cast; omega
          have K259n : ∀ (F3 : q_F) (u3 u4 : Value), ¬ isV (wd T N p e) → mpS F3 T N (.inr (p, e)) → mK (q_up F 219 2 p) F3 → V D C m_mo_onePart 259 [vr D 219, vi 0, vi (-1), u3, u4] [] (Zg g h) F3 := by
            intro F3 u3 u4 hv t3 k3
            have hR3 := hR1.mk k3 t3 (Int.le_refl _)
            rw [if_neg hv] at hch
            cases hn : l_num T N 0 9999 p e with
            | inl e0 =>
              rw [hn] at hch
              cases hch
              refine V_aload_0 d_mo_onePart_259 ?_
              refine V_iload_2 d_mo_onePart_260 ?_
              refine V_iconst (-1) d_mo_onePart_261 ?_
              refine V_icmp_eq 269 d_mo_onePart_262 (by decide) (by omega) (by omega) (fun c262 => ?_) (fun c262 => by omega)
              refine V_sipush 1000 d_mo_onePart_269 (by decide) ?_
              refine V_aload_0 d_mo_onePart_272 ?_
              refine V_iconst 0 d_mo_onePart_273 ?_
              refine V_sipush 9999 d_mo_onePart_274 (by decide) ?_
              refine V_cvI2 d_mo_onePart_277 ml_mo_256 mv_mo_number (by decide) (Nat.le_of_ble_eq_true rfl) is_mo (ok_number t3 (by decide) (by decide)) ?_
              rintro x F4 ⟨t4, k4, x4, -⟩
              have t5 : mpS F4 T N (pst (l_num T N 0 9999 p e)) := t4
              rw [hn] at t5
              have b4 : 0 ≤ F4 219 48 ∧ F4 219 48 ≤ 1600 := by
                have := hR3.bd
                rw [k4 _ _ (by decide)]; exact this
              refine V_iadd d_mo_onePart_280 ?_
              refine V_cvV1 d_mo_onePart_281 ml_mo_347 mv_mo_code (by decide) (Nat.le_of_ble_eq_true rfl) is_mo (ok_codeB (by omega)) ?_
              rintro F5 ⟨c5, k5⟩
              refine V_return d_mo_onePart_284 (hR _ ?_)
              exact ⟨Or.inl ⟨e0, rfl, t5.fr (fun j k hj => k5 j k (by omega) (by omega)), by omega⟩, ((hq1.tr k3.q).tr k4.q).tr (fun j k a b c => k5 j k b (by omega))⟩
            | inr s =>
              obtain ⟨v, q, d⟩ := s
              rw [hn] at hch
              have hv2 := l_num_rg hrg.2.1 hn
              refine V_aload_0 d_mo_onePart_259 ?_
              refine V_iload_2 d_mo_onePart_260 ?_
              refine V_iconst (-1) d_mo_onePart_261 ?_
              refine V_icmp_eq 269 d_mo_onePart_262 (by decide) (by omega) (by omega) (fun c262 => ?_) (fun c262 => by omega)
              refine V_sipush 1000 d_mo_onePart_269 (by decide) ?_
              refine V_aload_0 d_mo_onePart_272 ?_
              refine V_iconst 0 d_mo_onePart_273 ?_
              refine V_sipush 9999 d_mo_onePart_274 (by decide) ?_
              refine V_cvI2 d_mo_onePart_277 ml_mo_256 mv_mo_number (by decide) (Nat.le_of_ble_eq_true rfl) is_mo (ok_number t3 (by decide) (by decide)) ?_
              rintro x F4 ⟨t4, k4, x4, xv⟩
              have t5 : mpS F4 T N (pst (l_num T N 0 9999 p e)) := t4
              rw [hn] at t5
              have xv : x = v := xv v q d hn
              have hR4 := hR3.mk k4 t5 (by omega)
              refine V_iadd d_mo_onePart_280 ?_
              refine V_cvV1 d_mo_onePart_281 ml_mo_347 mv_mo_code (by decide) (Nat.le_of_ble_eq_true rfl) is_mo (ok_code hR4.2.2.1 (by omega)) ?_
              rintro F5 ⟨c5, k5⟩
              refine V_return d_mo_onePart_284 (hR _ ?_)
              refine ⟨Or.inr ⟨m, K, _, o, _, _, by omega, hch, ⟨hR4.1.fr (fun j k hj => k5 j k (by omega) (by omega)), hR4.2.1.fr (fun j k hj => k5 j k (by omega) (by omega)), ?_, by rw [k5 _ _ (by decide) (by decide)]; exact hR4.2.2.2.1, ?_⟩, ho, ho6⟩, ((hq1.tr k3.q).tr k4.q).tr (fun j k a b c => k5 j k b (by omega))⟩
              · rw [xv] at c5; exact c5
              · rw [List.length_append, List.length_cons, List.length_nil]; push_cast
                show _ ≤ q
                omega
          have K209 : ∀ (F3 : q_F) (u3 u4 : Value) (v2 : Int), ¬ wd T N p e = 3 → ¬ wd T N p e = 9 → ¬ wd T N p e = 10 → mpS F3 T N (.inr (p, e)) → mK (q_up F 219 2 p) F3 → V D C m_mo_onePart 209 [vr D 219, vi 0, vi v2, u3, u4] [] (Zg g h) F3 := by
            intro F3 u3 u4 v2 n3 n9 n10 t3 k3
            refine V_aload_0 d_mo_onePart_209 ?_
            refine V_aload_0 d_mo_onePart_210 ?_
            refine V_getR d_mo_onePart_211 fl_mo_78 is_mo r_mo_wetWord ?_
            refine V_cvI1 d_mo_onePart_214 ml_mo_212 mv_mo_takes (by decide) (Nat.le_of_ble_eq_true rfl) is_mo (ok_tkA t3 (hwW.mk k3) 20 (by decide) rfl) ?_
            rintro x214 F214 ⟨hk214, hx214⟩
            have k214 := k3.tr hk214
            refine V_if_eq 225 d_mo_onePart_217 (by decide) (by rcases hx214 with h | h <;> omega) (fun c217 => ?_) (fun c217 => ?_)
            · skip
              obtain ⟨-, n20, t214, -⟩ := hx214.resolve_left (fun h => by omega)
              refine V_aload_0 d_mo_onePart_225 ?_
              refine V_aload_0 d_mo_onePart_226 ?_
              refine V_getR d_mo_onePart_227 fl_mo_81 is_mo r_mo_unlikeWord ?_
              refine V_cvI1 d_mo_onePart_230 ml_mo_212 mv_mo_takes (by decide) (Nat.le_of_ble_eq_true rfl) is_mo (ok_tkA t214 (hwW.mk k214) 21 (by decide) rfl) ?_
              rintro x230 F230 ⟨hk230, hx230⟩
              have k230 := k214.tr hk230
              refine V_if_eq 241 d_mo_onePart_233 (by decide) (by rcases hx230 with h | h <;> omega) (fun c233 => ?_) (fun c233 => ?_)
              · skip
                obtain ⟨-, n21, t230, -⟩ := hx230.resolve_left (fun h => by omega)
                refine V_aload_0 d_mo_onePart_241 ?_
                refine V_aload_0 d_mo_onePart_242 ?_
                refine V_getR d_mo_onePart_243 fl_mo_84 is_mo r_mo_passWord ?_
                refine V_cvI1 d_mo_onePart_246 ml_mo_212 mv_mo_takes (by decide) (Nat.le_of_ble_eq_true rfl) is_mo (ok_tkA t230 (hwW.mk k230) 22 (by decide) rfl) ?_
                rintro x246 F246 ⟨hk246, hx246⟩
                have k246 := k230.tr hk246
                refine V_if_eq 257 d_mo_onePart_249 (by decide) (by rcases hx246 with h | h <;> omega) (fun c249 => ?_) (fun c249 => ?_)
                · skip
                  obtain ⟨-, n22, t246, -⟩ := hx246.resolve_left (fun h => by omega)
                  refine V_iconst (-1) d_mo_onePart_257 ?_
                  refine V_istore_2 d_mo_onePart_258 rfl ?_
                  exact K259n _ _ _ (by unfold isV; omega) t246 k246
                · skip
                  obtain ⟨-, y22, t246⟩ := hx246.resolve_right (fun h => by omega)
                  refine V_bipush 19 d_mo_onePart_252 (by decide) ?_
                  refine V_goto 258 d_mo_onePart_254 (by decide) ?_
                  refine V_istore_2 d_mo_onePart_258 rfl ?_
                  exact K259v _ _ _ _ (by unfold isV; omega) (by rw [y22]; rfl) t246 k246
              · skip
                obtain ⟨-, y21, t230⟩ := hx230.resolve_right (fun h => by omega)
                refine V_bipush 18 d_mo_onePart_236 (by decide) ?_
                refine V_goto 258 d_mo_onePart_238 (by decide) ?_
                refine V_istore_2 d_mo_onePart_258 rfl ?_
                exact K259v _ _ _ _ (by unfold isV; omega) (by rw [y21]; rfl) t230 k230
            · skip
              obtain ⟨-, y20, t214⟩ := hx214.resolve_right (fun h => by omega)
              refine V_bipush 10 d_mo_onePart_220 (by decide) ?_
              refine V_goto 258 d_mo_onePart_222 (by decide) ?_
              refine V_istore_2 d_mo_onePart_258 rfl ?_
              exact K259v _ _ _ _ (by unfold isV; omega) (by rw [y20]; rfl) t214 k214
          have K154 : ∀ (u2 u3 u4 : Value), V D C m_mo_onePart 154 [vr D 219, vi 0, u2, u3, u4] [] (Zg g h) (q_up F 219 2 p) := by
            intro u2 u3 u4
            refine V_aload_0 d_mo_onePart_154 ?_
            refine V_aload_0 d_mo_onePart_155 ?_
            refine V_getR d_mo_onePart_156 fl_mo_27 is_mo r_mo_feeWord ?_
            refine V_cvI1 d_mo_onePart_159 ml_mo_212 mv_mo_takes (by decide) (Nat.le_of_ble_eq_true rfl) is_mo (ok_tkA hR1.1 (hwW.mk (mK.refl _)) 3 (by decide) rfl) ?_
            rintro x159 F159 ⟨hk159, hx159⟩
            have k159 := mK.tr (mK.refl _) hk159
            refine V_if_eq 170 d_mo_onePart_162 (by decide) (by rcases hx159 with h | h <;> omega) (fun c162 => ?_) (fun c162 => ?_)
            · skip
              obtain ⟨-, n3, t159, -⟩ := hx159.resolve_left (fun h => by omega)
              refine V_aload_0 d_mo_onePart_170 ?_
              refine V_aload_0 d_mo_onePart_171 ?_
              refine V_getR d_mo_onePart_172 fl_mo_45 is_mo r_mo_hourWord ?_
              refine V_cvI1 d_mo_onePart_175 ml_mo_212 mv_mo_takes (by decide) (Nat.le_of_ble_eq_true rfl) is_mo (ok_tkA t159 (hwW.mk k159) 9 (by decide) rfl) ?_
              rintro x175 F175 ⟨hk175, hx175⟩
              have k175 := mK.tr k159 hk175
              refine V_if_eq 186 d_mo_onePart_178 (by decide) (by rcases hx175 with h | h <;> omega) (fun c178 => ?_) (fun c178 => ?_)
              · skip
                obtain ⟨-, n9, t175, -⟩ := hx175.resolve_left (fun h => by omega)
                refine V_aload_0 d_mo_onePart_186 ?_
                refine V_aload_0 d_mo_onePart_187 ?_
                refine V_getR d_mo_onePart_188 fl_mo_48 is_mo r_mo_lightWord ?_
                refine V_cvI1 d_mo_onePart_191 ml_mo_212 mv_mo_takes (by decide) (Nat.le_of_ble_eq_true rfl) is_mo (ok_tkA t175 (hwW.mk k175) 10 (by decide) rfl) ?_
                rintro x191 F191 ⟨hk191, hx191⟩
                have k191 := mK.tr k175 hk191
                refine V_if_eq 202 d_mo_onePart_194 (by decide) (by rcases hx191 with h | h <;> omega) (fun c194 => ?_) (fun c194 => ?_)
                · skip
                  obtain ⟨-, n10, t191, -⟩ := hx191.resolve_left (fun h => by omega)
                  refine V_iconst (-1) d_mo_onePart_202 ?_
                  refine V_istore_2 d_mo_onePart_203 rfl ?_
                  refine V_iload_2 d_mo_onePart_204 ?_
                  refine V_iconst (-1) d_mo_onePart_205 ?_
                  refine V_icmp_ne 259 d_mo_onePart_206 (by decide) (by omega) (by omega) (fun c206 => by omega) (fun c206 => ?_)
                  exact K209 _ _ _ _ (by omega) (by omega) (by omega) t191 k191
                · skip
                  obtain ⟨-, y10, t191⟩ := hx191.resolve_right (fun h => by omega)
                  refine V_bipush 9 d_mo_onePart_197 (by decide) ?_
                  refine V_goto 203 d_mo_onePart_199 (by decide) ?_
                  refine V_istore_2 d_mo_onePart_203 rfl ?_
                  refine V_iload_2 d_mo_onePart_204 ?_
                  refine V_iconst (-1) d_mo_onePart_205 ?_
                  refine V_icmp_ne 259 d_mo_onePart_206 (by decide) (by omega) (by omega) (fun c206 => ?_) (fun c206 => by omega)
                  exact K259v _ _ _ _ (by unfold isV; omega) (by rw [y10]; rfl) t191 k191
              · skip
                obtain ⟨-, y9, t175⟩ := hx175.resolve_right (fun h => by omega)
                refine V_bipush 8 d_mo_onePart_181 (by decide) ?_
                refine V_goto 203 d_mo_onePart_183 (by decide) ?_
                refine V_istore_2 d_mo_onePart_203 rfl ?_
                refine V_iload_2 d_mo_onePart_204 ?_
                refine V_iconst (-1) d_mo_onePart_205 ?_
                refine V_icmp_ne 259 d_mo_onePart_206 (by decide) (by omega) (by omega) (fun c206 => ?_) (fun c206 => by omega)
                exact K259v _ _ _ _ (by unfold isV; omega) (by rw [y9]; rfl) t175 k175
            · skip
              obtain ⟨-, y3, t159⟩ := hx159.resolve_right (fun h => by omega)
              refine V_bipush 7 d_mo_onePart_165 (by decide) ?_
              refine V_goto 203 d_mo_onePart_167 (by decide) ?_
              refine V_istore_2 d_mo_onePart_203 rfl ?_
              refine V_iload_2 d_mo_onePart_204 ?_
              refine V_iconst (-1) d_mo_onePart_205 ?_
              refine V_icmp_ne 259 d_mo_onePart_206 (by decide) (by omega) (by omega) (fun c206 => ?_) (fun c206 => by omega)
              exact K259v _ _ _ _ (by unfold isV; omega) (by rw [y3]; rfl) t159 k159
          have b51 := hR1.1.2.2.2.1
          refine V_iload_1 d_mo_onePart_2 ?_
          refine V_if_eq 146 d_mo_onePart_3 (by decide) (by omega) (fun c3 => by omega) (fun c3 => ?_)
          refine V_aload_0 d_mo_onePart_6 ?_
          refine V_getI d_mo_onePart_7 fl_mo_185 is_mo ?_
          rw [hb5]
          refine V_if_ne 146 d_mo_onePart_10 (by decide) (by omega) (fun c10 => by omega) (fun c10 => ?_)
          refine V_aload_0 d_mo_onePart_13 ?_
          refine V_cvI0 d_mo_onePart_14 ml_mo_197 mv_mo_look (by decide) (Nat.le_of_ble_eq_true rfl) is_mo (ok_look hM.1) ?_
          rintro _ f2 ⟨rfl, e2⟩
          rw [e2]; clear e2 f2
          refine V_istore_2 d_mo_onePart_17 rfl ?_
          refine V_iload_2 d_mo_onePart_18 ?_
          refine V_bipush 40 d_mo_onePart_19 (by decide) ?_
          refine V_icmp_ne 47 d_mo_onePart_21 (by decide) (by omega) (by omega) (fun c21 => ?_) (fun c21 => by omega)
          refine V_aload_0 d_mo_onePart_47 ?_
          refine V_aload_0 d_mo_onePart_48 ?_
          refine V_getR d_mo_onePart_49 fl_mo_87 is_mo r_mo_minWord ?_
          refine V_cvI1 d_mo_onePart_52 ml_mo_208 mv_mo_isHere (by decide) (Nat.le_of_ble_eq_true rfl) is_mo (ok_hereA hR1.1 hwW 23 (by decide) rfl) ?_
          rintro x52 f2 ⟨hx52, e2⟩
          rw [e2]; clear e2 f2
          rw [q_up_up]
          refine V_if_ne 69 d_mo_onePart_55 (by decide) (by rcases hx52 with h | h <;> omega) (fun c55 => ?_) (fun c55 => ?_)
          · skip
            exact absurd (Or.inl (q_b1 hx52 c55)) hw2
          · skip
            refine V_aload_0 d_mo_onePart_58 ?_
            refine V_aload_0 d_mo_onePart_59 ?_
            refine V_getR d_mo_onePart_60 fl_mo_90 is_mo r_mo_maxWord ?_
            refine V_cvI1 d_mo_onePart_63 ml_mo_208 mv_mo_isHere (by decide) (Nat.le_of_ble_eq_true rfl) is_mo (ok_hereA hR1.1 hwW 24 (by decide) rfl) ?_
            rintro x63 f2 ⟨hx63, e2⟩
            rw [e2]; clear e2 f2
            rw [q_up_up]
            refine V_if_eq 141 d_mo_onePart_66 (by decide) (by rcases hx63 with h | h <;> omega) (fun c66 => ?_) (fun c66 => ?_)
            · skip
              refine V_iconst 0 d_mo_onePart_141 ?_
              refine V_istore_1 d_mo_onePart_142 rfl ?_
              refine V_goto 2 d_mo_onePart_143 (by decide) ?_
              refine V_iload_1 d_mo_onePart_2 ?_
              refine V_if_eq 146 d_mo_onePart_3 (by decide) (by omega) (fun c3 => ?_) (fun c3 => by omega)
              refine V_aload_0 d_mo_onePart_146 ?_
              refine V_getI d_mo_onePart_147 fl_mo_185 is_mo ?_
              rw [b51]
              refine V_if_eq 154 d_mo_onePart_150 (by decide) (by omega) (fun c150 => ?_) (fun c150 => by omega)
              exact K154 _ _ _
            · skip
              exact absurd (Or.inr (q_b1 hx63 c66)) hw2
  obtain ⟨m, K, L, o, p, e, h1, h2, h3, h4, h5⟩ := hSt
  refine V_iconst 1 d_mo_onePart_0 ?_
  refine V_istore_1 d_mo_onePart_1 rfl ?_
  exact loop m K L o p e f _ _ _ h2 h1 h3 h4 h5 (mQ.refl f)
end RS3
