/-! the class reads rules: facts; all of it -/
section RU3
variable {D : q_D} {f f' : q_F} {A : q_As} {g h : Int} {T : Int → Int} {N p e : Int}
theorem ok_readFact {n : Nat} (hS : okR D g h T N m_ru_readSum 13 3 n) (hF : okR D g h T N m_ru_readFact 14 5 n) (hTe : okR D g h T N m_ru_readTest 16 8 n) : okR D g h T N m_ru_readFact 14 5 (n + 1) := by
  intro d0 f L o p e r ho hd hT hc hL hr
  obtain ⟨d, rfl⟩ : ∃ d, d0 = d + 1 := ⟨d0 - 1, by omega⟩
  have hd10 : 10 ≤ d + 1 := by omega
  have hp := hT.pr
  have hlk := lk_rg hT.1 hp.1
  have hwr := wd_rg (T := T) (N := N) p e
  have hph : tpS (q_up (q_up f 1 2 p) 1 7 (wE T N p e)) T N p e := hT.here _
  have hpc : cdS (q_up (q_up f 1 2 p) 1 7 (wE T N p e)) L := hc.fr (cK.refl f).up.up
  have g2 : (q_up (q_up f 1 2 p) 1 7 (wE T N p e)) 1 2 = p := by rw [q_up_ne (Or.inr (by decide)), q_up_eq]
  have g3 : (q_up (q_up f 1 2 p) 1 7 (wE T N p e)) 1 3 = f 1 3 := by rw [q_up_ne (Or.inr (by decide)), q_up_ne (Or.inr (by decide))]
  have g4 : (q_up (q_up f 1 2 p) 1 7 (wE T N p e)) 1 4 = f 1 4 := by rw [q_up_ne (Or.inr (by decide)), q_up_ne (Or.inr (by decide))]
  have hf1 : cK f (q_up (q_up f 1 2 p) 1 7 (wE T N p e)) := (cK.refl f).up.up
  rw [rd_5] at hr
  unfold rdFact at hr
  refine OkB_of (L0 := [vr D 4, vi o, vu, vu]) mi0_ru_readFact rfl rfl (Nat.le_of_ble_eq_true rfl) (fun C hR => ?_)
  by_cases hw18 : wd T N p e = 18
  · rw [if_pos hw18] at hr
    obtain ⟨w1, w2⟩ := hT.word (show ¬ wd T N p e = -1 by omega)
    have hge := wd_ge (T := T) hp.2.1 (show ¬ wd T N p e = -1 by omega)
    by_cases ho6 : o < 6
    · rw [if_pos ho6] at hr
      rcases ob_cases hr with ⟨e0, h1, h2⟩ | ⟨c1, q1, r1, h1, h2⟩
      · subst h2
        refine V_aload_0 (d_ru_readFact_0 (d+1)) ?_
        refine V_getR (d_ru_readFact_1 (d+1)) fl_ru_29 is_ru r_ru_tape ?_
        refine V_cvI0 (d_ru_readFact_4 (d+1)) ml_ru_66 mv_tp_wordHere (Nat.le_trans (by decide) hd10) (Nat.le_of_ble_eq_true rfl) is_tp (ok_wordHere hT) ?_
        rintro _ f2 ⟨rfl, e2⟩
        rw [e2]; clear e2 f2
        refine V_istore_2 (d_ru_readFact_7 (d+1)) rfl ?_
        refine V_iload_2 (d_ru_readFact_8 (d+1)) ?_
        refine V_bipush 18 (d_ru_readFact_9 (d+1)) (by decide) ?_
        refine V_icmp_ne 60 (d_ru_readFact_11 (d+1)) (by decide) (by omega) (by omega) (fun c11 => by omega) (fun c11 => ?_)
        refine V_aload_0 (d_ru_readFact_14 (d+1)) ?_
        refine V_iload_1 (d_ru_readFact_15 (d+1)) ?_
        refine V_cvI1 (d_ru_readFact_16 (d+1)) ml_ru_70 mv_ru_mayOpen (Nat.le_trans (by decide) hd10) (Nat.le_of_ble_eq_true rfl) is_ru (ok_mayOpen g2 ho) ?_
        rintro x F2 hx
        obtain ⟨rfl, -, e2⟩ := hx.resolve_right (fun h => h.2.1 ho6)
        subst e2
        refine V_if_eq 58 (d_ru_readFact_19 (d+1)) (by decide) (by omega) (fun c19 => by omega) (fun c19 => ?_)
        rw [w1]
        refine V_aload_0 (d_ru_readFact_22 (d+1)) ?_
        refine V_getR (d_ru_readFact_23 (d+1)) fl_ru_29 is_ru r_ru_tape ?_
        refine V_cvI0 (d_ru_readFact_26 (d+1)) ml_ru_73 mv_tp_takeWordHere (Nat.le_trans (by decide) hd10) (Nat.le_of_ble_eq_true rfl) is_tp (ok_takeWordHere (q_up_eq _ _ _ _)) ?_
        rintro x F3 ⟨rfl, e3⟩
        have k3 : cK f F3 := by rw [e3]; exact (cK.refl f).up.up.up.up
        have t3 := w2
        rw [← e3] at t3
        refine V_if_eq 58 (d_ru_readFact_29 (d+1)) (by decide) (by omega) (fun c29 => by omega) (fun c29 => ?_)
        refine V_aload_0 (d_ru_readFact_32 (d+1)) ?_
        refine V_iload_1 (d_ru_readFact_33 (d+1)) ?_
        refine V_iconst 1 (d_ru_readFact_34 (d+1)) ?_
        refine V_iadd (d_ru_readFact_35 (d+1)) ?_
        refine V_cvI1 (d_ru_readFact_36 (d+1)) (ml_ru_63 d) (mv_ru_readFact d) (Nat.le_refl _) (Nat.le_of_ble_eq_true rfl) is_ru (hF d F3 L (o + 1) _ _ _ (by omega) (by omega) t3 (hc.fr k3) (by omega) h1) ?_
        rintro x4 F4 ⟨rfl, b1, b2, b3⟩
        refine V_if_eq 58 (d_ru_readFact_39 (d+1)) (by decide) (by omega) (fun c39 => ?_) (fun c39 => by omega)
        refine V_iconst 0 (d_ru_readFact_58 (d+1)) ?_
        refine V_ireturn (d_ru_readFact_59 (d+1)) (hR _ _ (by decide) ?_)
        exact ⟨rfl, b1, b2, k3.r.tr b3⟩
      · have hl1 := rd_len n 5 _ _ _ _ _ _ hge.2.1 h1
        cases h2
        refine V_aload_0 (d_ru_readFact_0 (d+1)) ?_
        refine V_getR (d_ru_readFact_1 (d+1)) fl_ru_29 is_ru r_ru_tape ?_
        refine V_cvI0 (d_ru_readFact_4 (d+1)) ml_ru_66 mv_tp_wordHere (Nat.le_trans (by decide) hd10) (Nat.le_of_ble_eq_true rfl) is_tp (ok_wordHere hT) ?_
        rintro _ f2 ⟨rfl, e2⟩
        rw [e2]; clear e2 f2
        refine V_istore_2 (d_ru_readFact_7 (d+1)) rfl ?_
        refine V_iload_2 (d_ru_readFact_8 (d+1)) ?_
        refine V_bipush 18 (d_ru_readFact_9 (d+1)) (by decide) ?_
        refine V_icmp_ne 60 (d_ru_readFact_11 (d+1)) (by decide) (by omega) (by omega) (fun c11 => by omega) (fun c11 => ?_)
        refine V_aload_0 (d_ru_readFact_14 (d+1)) ?_
        refine V_iload_1 (d_ru_readFact_15 (d+1)) ?_
        refine V_cvI1 (d_ru_readFact_16 (d+1)) ml_ru_70 mv_ru_mayOpen (Nat.le_trans (by decide) hd10) (Nat.le_of_ble_eq_true rfl) is_ru (ok_mayOpen g2 ho) ?_
        rintro x F2 hx
        obtain ⟨rfl, -, e2⟩ := hx.resolve_right (fun h => h.2.1 ho6)
        subst e2
        refine V_if_eq 58 (d_ru_readFact_19 (d+1)) (by decide) (by omega) (fun c19 => by omega) (fun c19 => ?_)
        rw [w1]
        refine V_aload_0 (d_ru_readFact_22 (d+1)) ?_
        refine V_getR (d_ru_readFact_23 (d+1)) fl_ru_29 is_ru r_ru_tape ?_
        refine V_cvI0 (d_ru_readFact_26 (d+1)) ml_ru_73 mv_tp_takeWordHere (Nat.le_trans (by decide) hd10) (Nat.le_of_ble_eq_true rfl) is_tp (ok_takeWordHere (q_up_eq _ _ _ _)) ?_
        rintro x F3 ⟨rfl, e3⟩
        have k3 : cK f F3 := by rw [e3]; exact (cK.refl f).up.up.up.up
        have a3 : F3 1 3 = f 1 3 := by rw [e3, q_up_ne (Or.inr (by decide)), q_up_ne (Or.inr (by decide)), q_up_ne (Or.inr (by decide)), q_up_ne (Or.inr (by decide))]
        have a4 : F3 1 4 = f 1 4 := by rw [e3, q_up_ne (Or.inr (by decide)), q_up_ne (Or.inr (by decide)), q_up_ne (Or.inr (by decide)), q_up_ne (Or.inr (by decide))]
        have t3 := w2
        rw [← e3] at t3
        refine V_if_eq 58 (d_ru_readFact_29 (d+1)) (by decide) (by omega) (fun c29 => by omega) (fun c29 => ?_)
        refine V_aload_0 (d_ru_readFact_32 (d+1)) ?_
        refine V_iload_1 (d_ru_readFact_33 (d+1)) ?_
        refine V_iconst 1 (d_ru_readFact_34 (d+1)) ?_
        refine V_iadd (d_ru_readFact_35 (d+1)) ?_
        refine V_cvI1 (d_ru_readFact_36 (d+1)) (ml_ru_63 d) (mv_ru_readFact d) (Nat.le_refl _) (Nat.le_of_ble_eq_true rfl) is_ru (hF d F3 L (o + 1) _ _ _ (by omega) (by omega) t3 (hc.fr k3) (by omega) h1) ?_
        rintro x4 F4 ⟨rfl, t4, cd4, a5, a6, k4⟩
        refine V_if_eq 58 (d_ru_readFact_39 (d+1)) (by decide) (by omega) (fun c39 => by omega) (fun c39 => ?_)
        refine V_aload_0 (d_ru_readFact_42 (d+1)) ?_
        refine V_sipush (-200) (d_ru_readFact_43 (d+1)) (by decide) ?_
        refine V_iload_2 (d_ru_readFact_46 (d+1)) ?_
        refine V_isub (d_ru_readFact_47 (d+1)) ?_
        refine V_cvI1 (d_ru_readFact_48 (d+1)) ml_ru_60 mv_ru_emit (Nat.le_trans (by decide) hd10) (Nat.le_of_ble_eq_true rfl) is_ru (ok_emit (c := 16) cd4 (by rw [List.length_append]; show L.length + c1.length < 1600; omega) (by rw [hw18]; rfl)) ?_
        rintro x5 F5 ⟨rfl, cd5, k5⟩
        refine V_if_eq 58 (d_ru_readFact_51 (d+1)) (by decide) (by omega) (fun c51 => by omega) (fun c51 => ?_)
        refine V_iconst 1 (d_ru_readFact_54 (d+1)) ?_
        refine V_goto 59 (d_ru_readFact_55 (d+1)) (by decide) ?_
        refine V_ireturn (d_ru_readFact_59 (d+1)) (hR _ _ (by decide) ?_)
        refine ⟨rfl, t4.fr (fun j k hj => k5 j k (by omega) (by omega)), ?_, by rw [k5 _ _ (by decide) (by decide), a5, a3], by rw [k5 _ _ (by decide) (by decide), a6, a4], (k3.r.tr k4).tr (fun j k a b c => k5 j k b c)⟩
        show cdS F5 (L ++ (c1 ++ [16]))
        rw [← List.append_assoc]; exact cd5
    · rw [if_neg ho6] at hr
      cases hr
      refine V_aload_0 (d_ru_readFact_0 (d+1)) ?_
      refine V_getR (d_ru_readFact_1 (d+1)) fl_ru_29 is_ru r_ru_tape ?_
      refine V_cvI0 (d_ru_readFact_4 (d+1)) ml_ru_66 mv_tp_wordHere (Nat.le_trans (by decide) hd10) (Nat.le_of_ble_eq_true rfl) is_tp (ok_wordHere hT) ?_
      rintro _ f2 ⟨rfl, e2⟩
      rw [e2]; clear e2 f2
      refine V_istore_2 (d_ru_readFact_7 (d+1)) rfl ?_
      refine V_iload_2 (d_ru_readFact_8 (d+1)) ?_
      refine V_bipush 18 (d_ru_readFact_9 (d+1)) (by decide) ?_
      refine V_icmp_ne 60 (d_ru_readFact_11 (d+1)) (by decide) (by omega) (by omega) (fun c11 => by omega) (fun c11 => ?_)
      refine V_aload_0 (d_ru_readFact_14 (d+1)) ?_
      refine V_iload_1 (d_ru_readFact_15 (d+1)) ?_
      refine V_cvI1 (d_ru_readFact_16 (d+1)) ml_ru_70 mv_ru_mayOpen (Nat.le_trans (by decide) hd10) (Nat.le_of_ble_eq_true rfl) is_ru (ok_mayOpen g2 ho) ?_
      rintro x F2 hx
      obtain ⟨rfl, -, e2⟩ := hx.resolve_left (fun h => ho6 h.2.1)
      subst e2
      refine V_if_eq 58 (d_ru_readFact_19 (d+1)) (by decide) (by omega) (fun c19 => ?_) (fun c19 => by omega)
      refine V_iconst 0 (d_ru_readFact_58 (d+1)) ?_
      refine V_ireturn (d_ru_readFact_59 (d+1)) (hR _ _ (by decide) ?_)
      exact ⟨rfl, by rw [q_up_ne (Or.inr (by decide)), q_up_eq], q_up_eq _ _ _ _, (cK.refl f).up.up.up.up.r⟩
  · rw [if_neg hw18] at hr
    by_cases hw19 : wd T N p e = 19
    · rw [if_pos hw19] at hr
      obtain ⟨w1, w2⟩ := hT.word (show ¬ wd T N p e = -1 by omega)
      have hge := wd_ge (T := T) hp.2.1 (show ¬ wd T N p e = -1 by omega)
      cases hr
      refine V_aload_0 (d_ru_readFact_0 (d+1)) ?_
      refine V_getR (d_ru_readFact_1 (d+1)) fl_ru_29 is_ru r_ru_tape ?_
      refine V_cvI0 (d_ru_readFact_4 (d+1)) ml_ru_66 mv_tp_wordHere (Nat.le_trans (by decide) hd10) (Nat.le_of_ble_eq_true rfl) is_tp (ok_wordHere hT) ?_
      rintro _ f2 ⟨rfl, e2⟩
      rw [e2]; clear e2 f2
      refine V_istore_2 (d_ru_readFact_7 (d+1)) rfl ?_
      refine V_iload_2 (d_ru_readFact_8 (d+1)) ?_
      refine V_bipush 18 (d_ru_readFact_9 (d+1)) (by decide) ?_
      refine V_icmp_ne 60 (d_ru_readFact_11 (d+1)) (by decide) (by omega) (by omega) (fun c11 => ?_) (fun c11 => by omega)
      refine V_iload_2 (d_ru_readFact_60 (d+1)) ?_
      refine V_bipush 19 (d_ru_readFact_61 (d+1)) (by decide) ?_
      refine V_icmp_ne 94 (d_ru_readFact_63 (d+1)) (by decide) (by omega) (by omega) (fun c63 => by omega) (fun c63 => ?_)
      rw [w1]
      refine V_aload_0 (d_ru_readFact_66 (d+1)) ?_
      refine V_getR (d_ru_readFact_67 (d+1)) fl_ru_29 is_ru r_ru_tape ?_
      refine V_cvI0 (d_ru_readFact_70 (d+1)) ml_ru_73 mv_tp_takeWordHere (Nat.le_trans (by decide) hd10) (Nat.le_of_ble_eq_true rfl) is_tp (ok_takeWordHere (q_up_eq _ _ _ _)) ?_
      rintro x F3 ⟨rfl, e3⟩
      have k3 : cK f F3 := by rw [e3]; exact (cK.refl f).up.up.up.up
      have a3 : F3 1 3 = f 1 3 := by rw [e3, q_up_ne (Or.inr (by decide)), q_up_ne (Or.inr (by decide)), q_up_ne (Or.inr (by decide)), q_up_ne (Or.inr (by decide))]
      have a4 : F3 1 4 = f 1 4 := by rw [e3, q_up_ne (Or.inr (by decide)), q_up_ne (Or.inr (by decide)), q_up_ne (Or.inr (by decide)), q_up_ne (Or.inr (by decide))]
      have t3 := w2
      rw [← e3] at t3
      refine V_if_eq 92 (d_ru_readFact_73 (d+1)) (by decide) (by omega) (fun c73 => by omega) (fun c73 => ?_)
      refine V_aload_0 (d_ru_readFact_76 (d+1)) ?_
      refine V_sipush (-200) (d_ru_readFact_77 (d+1)) (by decide) ?_
      refine V_iload_2 (d_ru_readFact_80 (d+1)) ?_
      refine V_isub (d_ru_readFact_81 (d+1)) ?_
      refine V_cvI1 (d_ru_readFact_82 (d+1)) ml_ru_60 mv_ru_emit (Nat.le_trans (by decide) hd10) (Nat.le_of_ble_eq_true rfl) is_ru (ok_emit (c := 17) (hc.fr k3) (by omega) (by rw [hw19]; rfl)) ?_
      rintro x5 F5 ⟨rfl, cd5, k5⟩
      refine V_if_eq 92 (d_ru_readFact_85 (d+1)) (by decide) (by omega) (fun c85 => by omega) (fun c85 => ?_)
      refine V_iconst 1 (d_ru_readFact_88 (d+1)) ?_
      refine V_goto 93 (d_ru_readFact_89 (d+1)) (by decide) ?_
      refine V_ireturn (d_ru_readFact_93 (d+1)) (hR _ _ (by decide) ?_)
      exact ⟨rfl, t3.fr (fun j k hj => k5 j k (by omega) (by omega)), cd5, by rw [k5 _ _ (by decide) (by decide), a3], by rw [k5 _ _ (by decide) (by decide), a4], k3.r.tr (fun j k a b c => k5 j k b c)⟩
    · rw [if_neg hw19] at hr
      have hT2 := hph.pl
      have hc2 : cdS (q_up (q_up (q_up f 1 2 p) 1 7 (wE T N p e)) 1 2 p) L := hpc.fr (cK.refl _).up
      have m2 : (q_up (q_up (q_up f 1 2 p) 1 7 (wE T N p e)) 1 2 p) 1 2 = p := q_up_eq _ _ _ _
      have m3 : (q_up (q_up (q_up f 1 2 p) 1 7 (wE T N p e)) 1 2 p) 1 3 = f 1 3 := by rw [q_up_ne (Or.inr (by decide))]; exact g3
      have m4 : (q_up (q_up (q_up f 1 2 p) 1 7 (wE T N p e)) 1 2 p) 1 4 = f 1 4 := by rw [q_up_ne (Or.inr (by decide))]; exact g4
      have hf2 : cK f (q_up (q_up (q_up f 1 2 p) 1 7 (wE T N p e)) 1 2 p) := hf1.up
      generalize hF2 : q_up (q_up (q_up f 1 2 p) 1 7 (wE T N p e)) 1 2 p = F2 at hT2 hc2 m2 m3 m4 hf2
      by_cases hl : lk T N p = 91
      · rw [if_pos hl] at hr
        have hqN := (lk_of (by decide) hl).1
        have hsk := sk_ge (T := T) hqN
        have hsg : l_sign T N 91 p e = .inr (sk T N (p + 1), e) := by unfold l_sign; rw [if_pos hl]
        by_cases ho6 : o < 6
        · rw [if_pos ho6] at hr
          rcases ob_cases hr with ⟨e0, h1, h2⟩ | ⟨c1, q1, r1, h1, h2⟩
          · subst h2
            refine V_aload_0 (d_ru_readFact_0 (d+1)) ?_
            refine V_getR (d_ru_readFact_1 (d+1)) fl_ru_29 is_ru r_ru_tape ?_
            refine V_cvI0 (d_ru_readFact_4 (d+1)) ml_ru_66 mv_tp_wordHere (Nat.le_trans (by decide) hd10) (Nat.le_of_ble_eq_true rfl) is_tp (ok_wordHere hT) ?_
            rintro _ f2 ⟨rfl, e2⟩
            rw [e2]; clear e2 f2
            refine V_istore_2 (d_ru_readFact_7 (d+1)) rfl ?_
            refine V_iload_2 (d_ru_readFact_8 (d+1)) ?_
            refine V_bipush 18 (d_ru_readFact_9 (d+1)) (by decide) ?_
            refine V_icmp_ne 60 (d_ru_readFact_11 (d+1)) (by decide) (by omega) (by omega) (fun c11 => ?_) (fun c11 => by omega)
            refine V_iload_2 (d_ru_readFact_60 (d+1)) ?_
            refine V_bipush 19 (d_ru_readFact_61 (d+1)) (by decide) ?_
            refine V_icmp_ne 94 (d_ru_readFact_63 (d+1)) (by decide) (by omega) (by omega) (fun c63 => ?_) (fun c63 => by omega)
            refine V_aload_0 (d_ru_readFact_94 (d+1)) ?_
            refine V_getR (d_ru_readFact_95 (d+1)) fl_ru_29 is_ru r_ru_tape ?_
            refine V_cvI0 (d_ru_readFact_98 (d+1)) ml_ru_77 mv_tp_skipBlanks (Nat.le_trans (by decide) hd10) (Nat.le_of_ble_eq_true rfl) is_tp (ok_skipBlanks hph) ?_
            rintro _ f2 ⟨rfl, e2⟩
            rw [e2]; clear e2 f2
            rw [hF2]
            refine V_bipush 91 (d_ru_readFact_101 (d+1)) (by decide) ?_
            refine V_icmp_ne 154 (d_ru_readFact_103 (d+1)) (by decide) (by omega) (by omega) (fun c103 => by omega) (fun c103 => ?_)
            refine V_aload_0 (d_ru_readFact_106 (d+1)) ?_
            refine V_iload_1 (d_ru_readFact_107 (d+1)) ?_
            refine V_cvI1 (d_ru_readFact_108 (d+1)) ml_ru_70 mv_ru_mayOpen (Nat.le_trans (by decide) hd10) (Nat.le_of_ble_eq_true rfl) is_ru (ok_mayOpen m2 ho) ?_
            rintro x F9 hx
            obtain ⟨rfl, -, e2⟩ := hx.resolve_right (fun h => h.2.1 ho6)
            subst e2
            refine V_if_eq 152 (d_ru_readFact_111 (d+1)) (by decide) (by omega) (fun c111 => by omega) (fun c111 => ?_)
            refine V_aload_0 (d_ru_readFact_114 (d+1)) ?_
            refine V_getR (d_ru_readFact_115 (d+1)) fl_ru_29 is_ru r_ru_tape ?_
            refine V_bipush 91 (d_ru_readFact_118 (d+1)) (by decide) ?_
            refine V_cvI1 (d_ru_readFact_120 (d+1)) ml_ru_80 mv_tp_takeSign (Nat.le_trans (by decide) hd10) (Nat.le_of_ble_eq_true rfl) is_tp (ok_takeSign hT2 (by decide)) ?_
            rintro x F3 hx
            obtain ⟨rfl, t3, a3, a4, k3⟩ := cO_inr hx hsg
            refine V_if_eq 152 (d_ru_readFact_123 (d+1)) (by decide) (by omega) (fun c123 => by omega) (fun c123 => ?_)
            refine V_aload_0 (d_ru_readFact_126 (d+1)) ?_
            refine V_iload_1 (d_ru_readFact_127 (d+1)) ?_
            refine V_iconst 1 (d_ru_readFact_128 (d+1)) ?_
            refine V_iadd (d_ru_readFact_129 (d+1)) ?_
            refine V_cvI1 (d_ru_readFact_130 (d+1)) (ml_ru_51 d) (mv_ru_readTest d) (Nat.le_refl _) (Nat.le_of_ble_eq_true rfl) is_ru (hTe d F3 L (o + 1) _ _ _ (by omega) (by omega) t3 (hc2.fr k3) (by omega) h1) ?_
            rintro x4 F4 ⟨rfl, b1, b2, b3⟩
            refine V_if_eq 152 (d_ru_readFact_133 (d+1)) (by decide) (by omega) (fun c133 => ?_) (fun c133 => by omega)
            refine V_iconst 0 (d_ru_readFact_152 (d+1)) ?_
            refine V_ireturn (d_ru_readFact_153 (d+1)) (hR _ _ (by decide) ?_)
            exact ⟨rfl, b1, b2, (hf2.tr k3).r.tr b3⟩
          · rcases os_cases h2 with ⟨e0, h3, h4⟩ | ⟨q2, r2, h3, h4⟩
            · subst h4
              refine V_aload_0 (d_ru_readFact_0 (d+1)) ?_
              refine V_getR (d_ru_readFact_1 (d+1)) fl_ru_29 is_ru r_ru_tape ?_
              refine V_cvI0 (d_ru_readFact_4 (d+1)) ml_ru_66 mv_tp_wordHere (Nat.le_trans (by decide) hd10) (Nat.le_of_ble_eq_true rfl) is_tp (ok_wordHere hT) ?_
              rintro _ f2 ⟨rfl, e2⟩
              rw [e2]; clear e2 f2
              refine V_istore_2 (d_ru_readFact_7 (d+1)) rfl ?_
              refine V_iload_2 (d_ru_readFact_8 (d+1)) ?_
              refine V_bipush 18 (d_ru_readFact_9 (d+1)) (by decide) ?_
              refine V_icmp_ne 60 (d_ru_readFact_11 (d+1)) (by decide) (by omega) (by omega) (fun c11 => ?_) (fun c11 => by omega)
              refine V_iload_2 (d_ru_readFact_60 (d+1)) ?_
              refine V_bipush 19 (d_ru_readFact_61 (d+1)) (by decide) ?_
              refine V_icmp_ne 94 (d_ru_readFact_63 (d+1)) (by decide) (by omega) (by omega) (fun c63 => ?_) (fun c63 => by omega)
              refine V_aload_0 (d_ru_readFact_94 (d+1)) ?_
              refine V_getR (d_ru_readFact_95 (d+1)) fl_ru_29 is_ru r_ru_tape ?_
              refine V_cvI0 (d_ru_readFact_98 (d+1)) ml_ru_77 mv_tp_skipBlanks (Nat.le_trans (by decide) hd10) (Nat.le_of_ble_eq_true rfl) is_tp (ok_skipBlanks hph) ?_
              rintro _ f2 ⟨rfl, e2⟩
              rw [e2]; clear e2 f2
              rw [hF2]
              refine V_bipush 91 (d_ru_readFact_101 (d+1)) (by decide) ?_
              refine V_icmp_ne 154 (d_ru_readFact_103 (d+1)) (by decide) (by omega) (by omega) (fun c103 => by omega) (fun c103 => ?_)
              refine V_aload_0 (d_ru_readFact_106 (d+1)) ?_
              refine V_iload_1 (d_ru_readFact_107 (d+1)) ?_
              refine V_cvI1 (d_ru_readFact_108 (d+1)) ml_ru_70 mv_ru_mayOpen (Nat.le_trans (by decide) hd10) (Nat.le_of_ble_eq_true rfl) is_ru (ok_mayOpen m2 ho) ?_
              rintro x F9 hx
              obtain ⟨rfl, -, e2⟩ := hx.resolve_right (fun h => h.2.1 ho6)
              subst e2
              refine V_if_eq 152 (d_ru_readFact_111 (d+1)) (by decide) (by omega) (fun c111 => by omega) (fun c111 => ?_)
              refine V_aload_0 (d_ru_readFact_114 (d+1)) ?_
              refine V_getR (d_ru_readFact_115 (d+1)) fl_ru_29 is_ru r_ru_tape ?_
              refine V_bipush 91 (d_ru_readFact_118 (d+1)) (by decide) ?_
              refine V_cvI1 (d_ru_readFact_120 (d+1)) ml_ru_80 mv_tp_takeSign (Nat.le_trans (by decide) hd10) (Nat.le_of_ble_eq_true rfl) is_tp (ok_takeSign hT2 (by decide)) ?_
              rintro x F3 hx
              obtain ⟨rfl, t3, a3, a4, k3⟩ := cO_inr hx hsg
              refine V_if_eq 152 (d_ru_readFact_123 (d+1)) (by decide) (by omega) (fun c123 => by omega) (fun c123 => ?_)
              refine V_aload_0 (d_ru_readFact_126 (d+1)) ?_
              refine V_iload_1 (d_ru_readFact_127 (d+1)) ?_
              refine V_iconst 1 (d_ru_readFact_128 (d+1)) ?_
              refine V_iadd (d_ru_readFact_129 (d+1)) ?_
              refine V_cvI1 (d_ru_readFact_130 (d+1)) (ml_ru_51 d) (mv_ru_readTest d) (Nat.le_refl _) (Nat.le_of_ble_eq_true rfl) is_ru (hTe d F3 L (o + 1) _ _ _ (by omega) (by omega) t3 (hc2.fr k3) (by omega) h1) ?_
              rintro x4 F4 ⟨rfl, t4, cd4, a5, a6, k4⟩
              refine V_if_eq 152 (d_ru_readFact_133 (d+1)) (by decide) (by omega) (fun c133 => by omega) (fun c133 => ?_)
              refine V_aload_0 (d_ru_readFact_136 (d+1)) ?_
              refine V_getR (d_ru_readFact_137 (d+1)) fl_ru_29 is_ru r_ru_tape ?_
              refine V_bipush 93 (d_ru_readFact_140 (d+1)) (by decide) ?_
              refine V_cvI1 (d_ru_readFact_142 (d+1)) ml_ru_80 mv_tp_takeSign (Nat.le_trans (by decide) hd10) (Nat.le_of_ble_eq_true rfl) is_tp (ok_takeSign t4 (by decide)) ?_
              rintro x5 F5 hx5
              obtain ⟨rfl, b1, b2, b3⟩ := cO_inl hx5 h3
              refine V_if_eq 152 (d_ru_readFact_145 (d+1)) (by decide) (by omega) (fun c145 => ?_) (fun c145 => by omega)
              refine V_iconst 0 (d_ru_readFact_152 (d+1)) ?_
              refine V_ireturn (d_ru_readFact_153 (d+1)) (hR _ _ (by decide) ?_)
              exact ⟨rfl, b1, b2, ((hf2.tr k3).r.tr k4).tr b3.r⟩
            · cases h4
              refine V_aload_0 (d_ru_readFact_0 (d+1)) ?_
              refine V_getR (d_ru_readFact_1 (d+1)) fl_ru_29 is_ru r_ru_tape ?_
              refine V_cvI0 (d_ru_readFact_4 (d+1)) ml_ru_66 mv_tp_wordHere (Nat.le_trans (by decide) hd10) (Nat.le_of_ble_eq_true rfl) is_tp (ok_wordHere hT) ?_
              rintro _ f2 ⟨rfl, e2⟩
              rw [e2]; clear e2 f2
              refine V_istore_2 (d_ru_readFact_7 (d+1)) rfl ?_
              refine V_iload_2 (d_ru_readFact_8 (d+1)) ?_
              refine V_bipush 18 (d_ru_readFact_9 (d+1)) (by decide) ?_
              refine V_icmp_ne 60 (d_ru_readFact_11 (d+1)) (by decide) (by omega) (by omega) (fun c11 => ?_) (fun c11 => by omega)
              refine V_iload_2 (d_ru_readFact_60 (d+1)) ?_
              refine V_bipush 19 (d_ru_readFact_61 (d+1)) (by decide) ?_
              refine V_icmp_ne 94 (d_ru_readFact_63 (d+1)) (by decide) (by omega) (by omega) (fun c63 => ?_) (fun c63 => by omega)
              refine V_aload_0 (d_ru_readFact_94 (d+1)) ?_
              refine V_getR (d_ru_readFact_95 (d+1)) fl_ru_29 is_ru r_ru_tape ?_
              refine V_cvI0 (d_ru_readFact_98 (d+1)) ml_ru_77 mv_tp_skipBlanks (Nat.le_trans (by decide) hd10) (Nat.le_of_ble_eq_true rfl) is_tp (ok_skipBlanks hph) ?_
              rintro _ f2 ⟨rfl, e2⟩
              rw [e2]; clear e2 f2
              rw [hF2]
              refine V_bipush 91 (d_ru_readFact_101 (d+1)) (by decide) ?_
              refine V_icmp_ne 154 (d_ru_readFact_103 (d+1)) (by decide) (by omega) (by omega) (fun c103 => by omega) (fun c103 => ?_)
              refine V_aload_0 (d_ru_readFact_106 (d+1)) ?_
              refine V_iload_1 (d_ru_readFact_107 (d+1)) ?_
              refine V_cvI1 (d_ru_readFact_108 (d+1)) ml_ru_70 mv_ru_mayOpen (Nat.le_trans (by decide) hd10) (Nat.le_of_ble_eq_true rfl) is_ru (ok_mayOpen m2 ho) ?_
              rintro x F9 hx
              obtain ⟨rfl, -, e2⟩ := hx.resolve_right (fun h => h.2.1 ho6)
              subst e2
              refine V_if_eq 152 (d_ru_readFact_111 (d+1)) (by decide) (by omega) (fun c111 => by omega) (fun c111 => ?_)
              refine V_aload_0 (d_ru_readFact_114 (d+1)) ?_
              refine V_getR (d_ru_readFact_115 (d+1)) fl_ru_29 is_ru r_ru_tape ?_
              refine V_bipush 91 (d_ru_readFact_118 (d+1)) (by decide) ?_
              refine V_cvI1 (d_ru_readFact_120 (d+1)) ml_ru_80 mv_tp_takeSign (Nat.le_trans (by decide) hd10) (Nat.le_of_ble_eq_true rfl) is_tp (ok_takeSign hT2 (by decide)) ?_
              rintro x F3 hx
              obtain ⟨rfl, t3, a3, a4, k3⟩ := cO_inr hx hsg
              refine V_if_eq 152 (d_ru_readFact_123 (d+1)) (by decide) (by omega) (fun c123 => by omega) (fun c123 => ?_)
              refine V_aload_0 (d_ru_readFact_126 (d+1)) ?_
              refine V_iload_1 (d_ru_readFact_127 (d+1)) ?_
              refine V_iconst 1 (d_ru_readFact_128 (d+1)) ?_
              refine V_iadd (d_ru_readFact_129 (d+1)) ?_
              refine V_cvI1 (d_ru_readFact_130 (d+1)) (ml_ru_51 d) (mv_ru_readTest d) (Nat.le_refl _) (Nat.le_of_ble_eq_true rfl) is_ru (hTe d F3 L (o + 1) _ _ _ (by omega) (by omega) t3 (hc2.fr k3) (by omega) h1) ?_
              rintro x4 F4 ⟨rfl, t4, cd4, a5, a6, k4⟩
              refine V_if_eq 152 (d_ru_readFact_133 (d+1)) (by decide) (by omega) (fun c133 => by omega) (fun c133 => ?_)
              refine V_aload_0 (d_ru_readFact_136 (d+1)) ?_
              refine V_getR (d_ru_readFact_137 (d+1)) fl_ru_29 is_ru r_ru_tape ?_
              refine V_bipush 93 (d_ru_readFact_140 (d+1)) (by decide) ?_
              refine V_cvI1 (d_ru_readFact_142 (d+1)) ml_ru_80 mv_tp_takeSign (Nat.le_trans (by decide) hd10) (Nat.le_of_ble_eq_true rfl) is_tp (ok_takeSign t4 (by decide)) ?_
              rintro x5 F5 hx5
              obtain ⟨rfl, t5, a7, a8, k5⟩ := cO_inr hx5 h3
              refine V_if_eq 152 (d_ru_readFact_145 (d+1)) (by decide) (by omega) (fun c145 => by omega) (fun c145 => ?_)
              refine V_iconst 1 (d_ru_readFact_148 (d+1)) ?_
              refine V_goto 153 (d_ru_readFact_149 (d+1)) (by decide) ?_
              refine V_ireturn (d_ru_readFact_153 (d+1)) (hR _ _ (by decide) ?_)
              exact ⟨rfl, t5, cd4.fr k5, by rw [a7, a5, a3, m3], by rw [a8, a6, a4, m4], ((hf2.tr k3).r.tr k4).tr k5.r⟩
        · rw [if_neg ho6] at hr
          cases hr
          refine V_aload_0 (d_ru_readFact_0 (d+1)) ?_
          refine V_getR (d_ru_readFact_1 (d+1)) fl_ru_29 is_ru r_ru_tape ?_
          refine V_cvI0 (d_ru_readFact_4 (d+1)) ml_ru_66 mv_tp_wordHere (Nat.le_trans (by decide) hd10) (Nat.le_of_ble_eq_true rfl) is_tp (ok_wordHere hT) ?_
          rintro _ f2 ⟨rfl, e2⟩
          rw [e2]; clear e2 f2
          refine V_istore_2 (d_ru_readFact_7 (d+1)) rfl ?_
          refine V_iload_2 (d_ru_readFact_8 (d+1)) ?_
          refine V_bipush 18 (d_ru_readFact_9 (d+1)) (by decide) ?_
          refine V_icmp_ne 60 (d_ru_readFact_11 (d+1)) (by decide) (by omega) (by omega) (fun c11 => ?_) (fun c11 => by omega)
          refine V_iload_2 (d_ru_readFact_60 (d+1)) ?_
          refine V_bipush 19 (d_ru_readFact_61 (d+1)) (by decide) ?_
          refine V_icmp_ne 94 (d_ru_readFact_63 (d+1)) (by decide) (by omega) (by omega) (fun c63 => ?_) (fun c63 => by omega)
          refine V_aload_0 (d_ru_readFact_94 (d+1)) ?_
          refine V_getR (d_ru_readFact_95 (d+1)) fl_ru_29 is_ru r_ru_tape ?_
          refine V_cvI0 (d_ru_readFact_98 (d+1)) ml_ru_77 mv_tp_skipBlanks (Nat.le_trans (by decide) hd10) (Nat.le_of_ble_eq_true rfl) is_tp (ok_skipBlanks hph) ?_
          rintro _ f2 ⟨rfl, e2⟩
          rw [e2]; clear e2 f2
          rw [hF2]
          refine V_bipush 91 (d_ru_readFact_101 (d+1)) (by decide) ?_
          refine V_icmp_ne 154 (d_ru_readFact_103 (d+1)) (by decide) (by omega) (by omega) (fun c103 => by omega) (fun c103 => ?_)
          refine V_aload_0 (d_ru_readFact_106 (d+1)) ?_
          refine V_iload_1 (d_ru_readFact_107 (d+1)) ?_
          refine V_cvI1 (d_ru_readFact_108 (d+1)) ml_ru_70 mv_ru_mayOpen (Nat.le_trans (by decide) hd10) (Nat.le_of_ble_eq_true rfl) is_ru (ok_mayOpen m2 ho) ?_
          rintro x F9 hx
          obtain ⟨rfl, -, e2⟩ := hx.resolve_left (fun h => ho6 h.2.1)
          subst e2
          refine V_if_eq 152 (d_ru_readFact_111 (d+1)) (by decide) (by omega) (fun c111 => ?_) (fun c111 => by omega)
          refine V_iconst 0 (d_ru_readFact_152 (d+1)) ?_
          refine V_ireturn (d_ru_readFact_153 (d+1)) (hR _ _ (by decide) ?_)
          exact ⟨rfl, by rw [q_up_ne (Or.inr (by decide)), q_up_eq], q_up_eq _ _ _ _, hf2.up.up.r⟩
      · rw [if_neg hl] at hr
        rcases ob_cases hr with ⟨e0, h1, h2⟩ | ⟨c1, q1, r1, h1, h2⟩
        · subst h2
          refine V_aload_0 (d_ru_readFact_0 (d+1)) ?_
          refine V_getR (d_ru_readFact_1 (d+1)) fl_ru_29 is_ru r_ru_tape ?_
          refine V_cvI0 (d_ru_readFact_4 (d+1)) ml_ru_66 mv_tp_wordHere (Nat.le_trans (by decide) hd10) (Nat.le_of_ble_eq_true rfl) is_tp (ok_wordHere hT) ?_
          rintro _ f2 ⟨rfl, e2⟩
          rw [e2]; clear e2 f2
          refine V_istore_2 (d_ru_readFact_7 (d+1)) rfl ?_
          refine V_iload_2 (d_ru_readFact_8 (d+1)) ?_
          refine V_bipush 18 (d_ru_readFact_9 (d+1)) (by decide) ?_
          refine V_icmp_ne 60 (d_ru_readFact_11 (d+1)) (by decide) (by omega) (by omega) (fun c11 => ?_) (fun c11 => by omega)
          refine V_iload_2 (d_ru_readFact_60 (d+1)) ?_
          refine V_bipush 19 (d_ru_readFact_61 (d+1)) (by decide) ?_
          refine V_icmp_ne 94 (d_ru_readFact_63 (d+1)) (by decide) (by omega) (by omega) (fun c63 => ?_) (fun c63 => by omega)
          refine V_aload_0 (d_ru_readFact_94 (d+1)) ?_
          refine V_getR (d_ru_readFact_95 (d+1)) fl_ru_29 is_ru r_ru_tape ?_
          refine V_cvI0 (d_ru_readFact_98 (d+1)) ml_ru_77 mv_tp_skipBlanks (Nat.le_trans (by decide) hd10) (Nat.le_of_ble_eq_true rfl) is_tp (ok_skipBlanks hph) ?_
          rintro _ f2 ⟨rfl, e2⟩
          rw [e2]; clear e2 f2
          rw [hF2]
          refine V_bipush 91 (d_ru_readFact_101 (d+1)) (by decide) ?_
          refine V_icmp_ne 154 (d_ru_readFact_103 (d+1)) (by decide) (by omega) (by omega) (fun c103 => ?_) (fun c103 => by omega)
          refine V_aload_0 (d_ru_readFact_154 (d+1)) ?_
          refine V_iload_1 (d_ru_readFact_155 (d+1)) ?_
          refine V_cvI1 (d_ru_readFact_156 (d+1)) (ml_ru_42 d) (mv_ru_readSum d) (Nat.le_refl _) (Nat.le_of_ble_eq_true rfl) is_ru (hS d F2 L o _ _ _ ho (by omega) hT2 hc2 hL h1) ?_
          rintro x4 F4 ⟨rfl, b1, b2, b3⟩
          refine V_if_ne 164 (d_ru_readFact_159 (d+1)) (by decide) (by omega) (fun c159 => by omega) (fun c159 => ?_)
          refine V_iconst 0 (d_ru_readFact_162 (d+1)) ?_
          refine V_ireturn (d_ru_readFact_163 (d+1)) (hR _ _ (by decide) ?_)
          exact ⟨rfl, b1, b2, hf2.r.tr b3⟩
        · have hl1 := rd_len n 3 _ _ _ _ _ _ hp.2.1 h1
          by_cases hs : lk T N q1 = 60 ∨ lk T N q1 = 62 ∨ lk T N q1 = 61
          · rw [if_pos hs] at h2
            have hqN : q1 < N := by rcases hs with hs | hs | hs <;> exact (lk_of (by decide) hs).1
            have hsk := sk_ge (T := T) hqN
            have hsg : l_sign T N (lk T N q1) q1 r1 = .inr (sk T N (q1 + 1), r1) := by unfold l_sign; rw [if_pos rfl]
            have K198 : ∀ (F4 : q_F) (u : Int), tpS F4 T N q1 r1 → cdS F4 (L ++ c1) → F4 1 3 = f 1 3 → F4 1 4 = f 1 4 → rK f F4 → V D C (m_ru_readFact (d + 1)) 198 [vr D 4, vi o, vi u, vi (lk T N q1)] [] (Zg g h) F4 := by
              intro F4 u t4 cd4 a3 a4 k4
              have hlk2 := lk_rg t4.1 t4.pr.1
              have hN16 := t4.pr.2.2.2.1
              rcases ob_cases h2 with ⟨e0, h3, h4⟩ | ⟨c2, q3, r3, h3, h4⟩
              · subst h4
                refine V_aload_0 (d_ru_readFact_198 (d+1)) ?_
                refine V_getR (d_ru_readFact_199 (d+1)) fl_ru_29 is_ru r_ru_tape ?_
                refine V_iload_3 (d_ru_readFact_202 (d+1)) ?_
                refine V_cvI1 (d_ru_readFact_203 (d+1)) ml_ru_80 mv_tp_takeSign (Nat.le_trans (by decide) hd10) (Nat.le_of_ble_eq_true rfl) is_tp (ok_takeSign t4 (by omega)) ?_
                rintro x F5 hx
                obtain ⟨rfl, t5, a5, a6, k5⟩ := cO_inr hx hsg
                refine V_if_eq 230 (d_ru_readFact_206 (d+1)) (by decide) (by omega) (fun c206 => by omega) (fun c206 => ?_)
                refine V_aload_0 (d_ru_readFact_209 (d+1)) ?_
                refine V_iload_1 (d_ru_readFact_210 (d+1)) ?_
                refine V_cvI1 (d_ru_readFact_211 (d+1)) (ml_ru_42 d) (mv_ru_readSum d) (Nat.le_refl _) (Nat.le_of_ble_eq_true rfl) is_ru (hS d F5 (L ++ c1) o _ _ _ ho (by omega) t5 (cd4.fr k5) (by rw [List.length_append]; push_cast; omega) h3) ?_
                rintro x6 F6 ⟨rfl, b1, b2, b3⟩
                refine V_if_eq 230 (d_ru_readFact_214 (d+1)) (by decide) (by omega) (fun c214 => ?_) (fun c214 => by omega)
                refine V_iconst 0 (d_ru_readFact_230 (d+1)) ?_
                refine V_ireturn (d_ru_readFact_231 (d+1)) (hR _ _ (by decide) ?_)
                exact ⟨rfl, b1, b2, (k4.tr k5.r).tr b3⟩
              · have hl3 := rd_len n 3 _ _ _ _ _ _ hsk.2 h3
                cases h4
                refine V_aload_0 (d_ru_readFact_198 (d+1)) ?_
                refine V_getR (d_ru_readFact_199 (d+1)) fl_ru_29 is_ru r_ru_tape ?_
                refine V_iload_3 (d_ru_readFact_202 (d+1)) ?_
                refine V_cvI1 (d_ru_readFact_203 (d+1)) ml_ru_80 mv_tp_takeSign (Nat.le_trans (by decide) hd10) (Nat.le_of_ble_eq_true rfl) is_tp (ok_takeSign t4 (by omega)) ?_
                rintro x F5 hx
                obtain ⟨rfl, t5, a5, a6, k5⟩ := cO_inr hx hsg
                refine V_if_eq 230 (d_ru_readFact_206 (d+1)) (by decide) (by omega) (fun c206 => by omega) (fun c206 => ?_)
                refine V_aload_0 (d_ru_readFact_209 (d+1)) ?_
                refine V_iload_1 (d_ru_readFact_210 (d+1)) ?_
                refine V_cvI1 (d_ru_readFact_211 (d+1)) (ml_ru_42 d) (mv_ru_readSum d) (Nat.le_refl _) (Nat.le_of_ble_eq_true rfl) is_ru (hS d F5 (L ++ c1) o _ _ _ ho (by omega) t5 (cd4.fr k5) (by rw [List.length_append]; push_cast; omega) h3) ?_
                rintro x6 F6 ⟨rfl, t6, cd6, a7, a8, k6⟩
                refine V_if_eq 230 (d_ru_readFact_214 (d+1)) (by decide) (by omega) (fun c214 => by omega) (fun c214 => ?_)
                refine V_aload_0 (d_ru_readFact_217 (d+1)) ?_
                refine V_iload_3 (d_ru_readFact_218 (d+1)) ?_
                refine V_ineg (d_ru_readFact_219 (d+1)) ?_
                refine V_cvI1 (d_ru_readFact_220 (d+1)) ml_ru_60 mv_ru_emit (Nat.le_trans (by decide) hd10) (Nat.le_of_ble_eq_true rfl) is_ru (ok_emit (c := if lk T N q1 = 60 then 11 else if lk T N q1 = 62 then 12 else 13) cd6 (by rw [List.length_append, List.length_append]; show L.length + c1.length + c2.length < 1600; omega) (by rcases hs with e | e | e <;> rw [e] <;> rfl)) ?_
                rintro x7 F7 ⟨rfl, cd7, k7⟩
                refine V_if_eq 230 (d_ru_readFact_223 (d+1)) (by decide) (by omega) (fun c223 => by omega) (fun c223 => ?_)
                refine V_iconst 1 (d_ru_readFact_226 (d+1)) ?_
                refine V_goto 231 (d_ru_readFact_227 (d+1)) (by decide) ?_
                refine V_ireturn (d_ru_readFact_231 (d+1)) (hR _ _ (by decide) ?_)
                refine ⟨rfl, t6.fr (fun j k hj => k7 j k (by omega) (by omega)), ?_, by rw [k7 _ _ (by decide) (by decide), a7, a5, a3], by rw [k7 _ _ (by decide) (by decide), a8, a6, a4], ((k4.tr k5.r).tr k6).tr (fun j k a b c => k7 j k b c)⟩
                show cdS F7 (L ++ (c1 ++ (c2 ++ [_])))
                rw [← List.append_assoc, ← List.append_assoc]; exact cd7
            refine V_aload_0 (d_ru_readFact_0 (d+1)) ?_
            refine V_getR (d_ru_readFact_1 (d+1)) fl_ru_29 is_ru r_ru_tape ?_
            refine V_cvI0 (d_ru_readFact_4 (d+1)) ml_ru_66 mv_tp_wordHere (Nat.le_trans (by decide) hd10) (Nat.le_of_ble_eq_true rfl) is_tp (ok_wordHere hT) ?_
            rintro _ f2 ⟨rfl, e2⟩
            rw [e2]; clear e2 f2
            refine V_istore_2 (d_ru_readFact_7 (d+1)) rfl ?_
            refine V_iload_2 (d_ru_readFact_8 (d+1)) ?_
            refine V_bipush 18 (d_ru_readFact_9 (d+1)) (by decide) ?_
            refine V_icmp_ne 60 (d_ru_readFact_11 (d+1)) (by decide) (by omega) (by omega) (fun c11 => ?_) (fun c11 => by omega)
            refine V_iload_2 (d_ru_readFact_60 (d+1)) ?_
            refine V_bipush 19 (d_ru_readFact_61 (d+1)) (by decide) ?_
            refine V_icmp_ne 94 (d_ru_readFact_63 (d+1)) (by decide) (by omega) (by omega) (fun c63 => ?_) (fun c63 => by omega)
            refine V_aload_0 (d_ru_readFact_94 (d+1)) ?_
            refine V_getR (d_ru_readFact_95 (d+1)) fl_ru_29 is_ru r_ru_tape ?_
            refine V_cvI0 (d_ru_readFact_98 (d+1)) ml_ru_77 mv_tp_skipBlanks (Nat.le_trans (by decide) hd10) (Nat.le_of_ble_eq_true rfl) is_tp (ok_skipBlanks hph) ?_
            rintro _ f2 ⟨rfl, e2⟩
            rw [e2]; clear e2 f2
            rw [hF2]
            refine V_bipush 91 (d_ru_readFact_101 (d+1)) (by decide) ?_
            refine V_icmp_ne 154 (d_ru_readFact_103 (d+1)) (by decide) (by omega) (by omega) (fun c103 => ?_) (fun c103 => by omega)
            refine V_aload_0 (d_ru_readFact_154 (d+1)) ?_
            refine V_iload_1 (d_ru_readFact_155 (d+1)) ?_
            refine V_cvI1 (d_ru_readFact_156 (d+1)) (ml_ru_42 d) (mv_ru_readSum d) (Nat.le_refl _) (Nat.le_of_ble_eq_true rfl) is_ru (hS d F2 L o _ _ _ ho (by omega) hT2 hc2 hL h1) ?_
            rintro x4 F4 ⟨rfl, t4, cd4, a5, a6, k4⟩
            have t4p := t4.pl
            have cd4p : cdS (q_up F4 1 2 q1) (L ++ c1) := cd4.fr (cK.refl F4).up
            have hlk2 := lk_rg t4.1 t4.pr.1
            have b3 : (q_up F4 1 2 q1) 1 3 = f 1 3 := by rw [q_up_ne (Or.inr (by decide)), a5, m3]
            have b4 : (q_up F4 1 2 q1) 1 4 = f 1 4 := by rw [q_up_ne (Or.inr (by decide)), a6, m4]
            have bk : rK f (q_up F4 1 2 q1) := (hf2.r.tr k4).tr (cK.refl F4).up.r
            refine V_if_ne 164 (d_ru_readFact_159 (d+1)) (by decide) (by omega) (fun c159 => ?_) (fun c159 => by omega)
            refine V_aload_0 (d_ru_readFact_164 (d+1)) ?_
            refine V_getR (d_ru_readFact_165 (d+1)) fl_ru_29 is_ru r_ru_tape ?_
            refine V_cvI0 (d_ru_readFact_168 (d+1)) ml_ru_77 mv_tp_skipBlanks (Nat.le_trans (by decide) hd10) (Nat.le_of_ble_eq_true rfl) is_tp (ok_skipBlanks t4) ?_
            rintro _ f2 ⟨rfl, e2⟩
            rw [e2]; clear e2 f2
            refine V_istore_3 (d_ru_readFact_171 (d+1)) rfl ?_
            refine V_iload_3 (d_ru_readFact_172 (d+1)) ?_
            refine V_bipush 60 (d_ru_readFact_173 (d+1)) (by decide) ?_
            refine V_icmp_eq 198 (d_ru_readFact_175 (d+1)) (by decide) (by omega) (by omega) (fun c175 => ?_) (fun c175 => ?_)
            · skip
              exact K198 _ _ t4p cd4p b3 b4 bk
            · skip
              refine V_iload_3 (d_ru_readFact_178 (d+1)) ?_
              refine V_bipush 62 (d_ru_readFact_179 (d+1)) (by decide) ?_
              refine V_icmp_eq 198 (d_ru_readFact_181 (d+1)) (by decide) (by omega) (by omega) (fun c181 => ?_) (fun c181 => ?_)
              · skip
                exact K198 _ _ t4p cd4p b3 b4 bk
              · skip
                refine V_iload_3 (d_ru_readFact_184 (d+1)) ?_
                refine V_bipush 61 (d_ru_readFact_185 (d+1)) (by decide) ?_
                refine V_icmp_eq 198 (d_ru_readFact_187 (d+1)) (by decide) (by omega) (by omega) (fun c187 => ?_) (fun c187 => ?_)
                · skip
                  exact K198 _ _ t4p cd4p b3 b4 bk
                · skip
                  exact absurd hs (fun h => h.elim c175 (fun h => h.elim c181 c187))
          · rw [if_neg hs] at h2
            cases h2
            refine V_aload_0 (d_ru_readFact_0 (d+1)) ?_
            refine V_getR (d_ru_readFact_1 (d+1)) fl_ru_29 is_ru r_ru_tape ?_
            refine V_cvI0 (d_ru_readFact_4 (d+1)) ml_ru_66 mv_tp_wordHere (Nat.le_trans (by decide) hd10) (Nat.le_of_ble_eq_true rfl) is_tp (ok_wordHere hT) ?_
            rintro _ f2 ⟨rfl, e2⟩
            rw [e2]; clear e2 f2
            refine V_istore_2 (d_ru_readFact_7 (d+1)) rfl ?_
            refine V_iload_2 (d_ru_readFact_8 (d+1)) ?_
            refine V_bipush 18 (d_ru_readFact_9 (d+1)) (by decide) ?_
            refine V_icmp_ne 60 (d_ru_readFact_11 (d+1)) (by decide) (by omega) (by omega) (fun c11 => ?_) (fun c11 => by omega)
            refine V_iload_2 (d_ru_readFact_60 (d+1)) ?_
            refine V_bipush 19 (d_ru_readFact_61 (d+1)) (by decide) ?_
            refine V_icmp_ne 94 (d_ru_readFact_63 (d+1)) (by decide) (by omega) (by omega) (fun c63 => ?_) (fun c63 => by omega)
            refine V_aload_0 (d_ru_readFact_94 (d+1)) ?_
            refine V_getR (d_ru_readFact_95 (d+1)) fl_ru_29 is_ru r_ru_tape ?_
            refine V_cvI0 (d_ru_readFact_98 (d+1)) ml_ru_77 mv_tp_skipBlanks (Nat.le_trans (by decide) hd10) (Nat.le_of_ble_eq_true rfl) is_tp (ok_skipBlanks hph) ?_
            rintro _ f2 ⟨rfl, e2⟩
            rw [e2]; clear e2 f2
            rw [hF2]
            refine V_bipush 91 (d_ru_readFact_101 (d+1)) (by decide) ?_
            refine V_icmp_ne 154 (d_ru_readFact_103 (d+1)) (by decide) (by omega) (by omega) (fun c103 => ?_) (fun c103 => by omega)
            refine V_aload_0 (d_ru_readFact_154 (d+1)) ?_
            refine V_iload_1 (d_ru_readFact_155 (d+1)) ?_
            refine V_cvI1 (d_ru_readFact_156 (d+1)) (ml_ru_42 d) (mv_ru_readSum d) (Nat.le_refl _) (Nat.le_of_ble_eq_true rfl) is_ru (hS d F2 L o _ _ _ ho (by omega) hT2 hc2 hL h1) ?_
            rintro x4 F4 ⟨rfl, t4, cd4, a5, a6, k4⟩
            have hlk2 := lk_rg t4.1 t4.pr.1
            refine V_if_ne 164 (d_ru_readFact_159 (d+1)) (by decide) (by omega) (fun c159 => ?_) (fun c159 => by omega)
            refine V_aload_0 (d_ru_readFact_164 (d+1)) ?_
            refine V_getR (d_ru_readFact_165 (d+1)) fl_ru_29 is_ru r_ru_tape ?_
            refine V_cvI0 (d_ru_readFact_168 (d+1)) ml_ru_77 mv_tp_skipBlanks (Nat.le_trans (by decide) hd10) (Nat.le_of_ble_eq_true rfl) is_tp (ok_skipBlanks t4) ?_
            rintro _ f2 ⟨rfl, e2⟩
            rw [e2]; clear e2 f2
            refine V_istore_3 (d_ru_readFact_171 (d+1)) rfl ?_
            refine V_iload_3 (d_ru_readFact_172 (d+1)) ?_
            refine V_bipush 60 (d_ru_readFact_173 (d+1)) (by decide) ?_
            refine V_icmp_eq 198 (d_ru_readFact_175 (d+1)) (by decide) (by omega) (by omega) (fun c175 => ?_) (fun c175 => ?_)
            · skip
              exact absurd (Or.inl c175) hs
            · skip
              refine V_iload_3 (d_ru_readFact_178 (d+1)) ?_
              refine V_bipush 62 (d_ru_readFact_179 (d+1)) (by decide) ?_
              refine V_icmp_eq 198 (d_ru_readFact_181 (d+1)) (by decide) (by omega) (by omega) (fun c181 => ?_) (fun c181 => ?_)
              · skip
                exact absurd (Or.inr (Or.inl c181)) hs
              · skip
                refine V_iload_3 (d_ru_readFact_184 (d+1)) ?_
                refine V_bipush 61 (d_ru_readFact_185 (d+1)) (by decide) ?_
                refine V_icmp_eq 198 (d_ru_readFact_187 (d+1)) (by decide) (by omega) (by omega) (fun c187 => ?_) (fun c187 => ?_)
                · skip
                  exact absurd (Or.inr (Or.inr c187)) hs
                · skip
                  refine V_aload_0 (d_ru_readFact_190 (d+1)) ?_
                  refine V_getR (d_ru_readFact_191 (d+1)) fl_ru_29 is_ru r_ru_tape ?_
                  refine V_cvI0 (d_ru_readFact_194 (d+1)) ml_ru_83 mv_tp_failHere (Nat.le_trans (by decide) hd10) (Nat.le_of_ble_eq_true rfl) is_tp (ok_failHere (q_up_eq _ _ _ _)) ?_
                  rintro x f9 ⟨hx, e9⟩
                  rw [hx, e9]; clear hx e9 f9
                  refine V_ireturn (d_ru_readFact_197 (d+1)) (hR _ _ (by decide) ?_)
                  exact ⟨rfl, by rw [q_up_ne (Or.inr (by decide)), q_up_eq], q_up_eq _ _ _ _, (hf2.r.tr k4).tr (cK.refl F4).up.up.up.r⟩
theorem ru_all : ∀ n : Nat, ∀ k, k ≤ n → okR D g h T N m_ru_readPart 11 0 k ∧ okR D g h T N m_ru_readProduct 12 1 k ∧ okR D g h T N m_ru_readSum 13 3 k ∧ okR D g h T N m_ru_readFact 14 5 k ∧ okR D g h T N m_ru_readBoth 15 6 k ∧ okR D g h T N m_ru_readTest 16 8 k := by
  intro n
  induction n with
  | zero =>
    intro k hk
    have : k = 0 := by omega
    subst this
    refine ⟨?_, ?_, ?_, ?_, ?_, ?_⟩ <;> (intro d f L o p e r _ _ _ _ _ hr; cases hr)
  | succ n ih =>
    intro k hk
    by_cases e : k ≤ n
    · exact ih k e
    · have : k = n + 1 := by omega
      subst this
      have h0 := ih n (Nat.le_refl _)
      exact ⟨ok_readPart h0.2.2.1, ok_readProduct (fun k hk => (ih k hk).1), ok_readSum (fun k hk => (ih k hk).2.1), ok_readFact h0.2.2.1 h0.2.2.2.1 h0.2.2.2.2.2, ok_readBoth (fun k hk => (ih k hk).2.2.2.1), ok_readTest (fun k hk => (ih k hk).2.2.2.2.1)⟩
end RU3
