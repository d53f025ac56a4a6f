/-! the reference: feed, end, hire, undo, image, on -/
section MO6
variable {D : q_D} {f f' : q_F} {A : q_As} {g h : Int}
theorem Mst.tape (hS : Mst f A) (hF : Wf A) {n : Int} {t : Int → Int} (hf : ∀ j k, ¬ j = 220 → ¬ (j = 219 ∧ k = 1) → f' j k = f j k) (h1 : f' 219 1 = n) (h2 : ∀ k, 0 ≤ k → k < n → f' 220 k = t k) : Mst f' (A_tape A n t) := by
  obtain ⟨hG, hH, hT⟩ := hS
  refine ⟨hG.mono (A_tape_g n t) (fun j k hq => hf j k (by unfold q_mg at hq; omega) (by unfold q_mg at hq; omega)) hF.1, hH.mono rfl rfl rfl rfl (fun k => hf _ _ (by decide) (by omega)) (fun k => hf _ _ (by decide) (by omega)) (hf _ _ (by decide) (by omega)) (hf _ _ (by decide) (by omega)), ?_⟩
  obtain ⟨c1, c2, c3, c4, c5, c6, c7⟩ := hT
  unfold Mt
  simp only [A_tape_13, A_tape_14, show ∀ i, A_tape A n t 15 i 0 = A 15 i 0 from fun _ => rfl]
  exact ⟨h1, h2, by rw [hf _ _ (by omega) (by omega)]; exact c3, by rw [hf _ _ (by omega) (by omega)]; exact c4, by rw [hf _ _ (by omega) (by omega)]; exact c5, by rw [hf _ _ (by omega) (by omega)]; exact c6, fun k a b => by rw [hf _ _ (by omega) (by omega)]; exact c7 k a b⟩
theorem Mst.img (hS : Mst f A) (hF : Wf A) {n : Int} {t : Int → Int} (hf : ∀ j k, ¬ j = 273 → ¬ (j = 219 ∧ k = 75) → f' j k = f j k) (h1 : f' 219 75 = n) (h2 : ∀ k, 0 ≤ k → k < n → f' 273 k = t k) : Mst f' (A_img A n t) := by
  obtain ⟨hG, hH, hT⟩ := hS
  refine ⟨hG.mono (A_img_g n t) (fun j k hq => hf j k (by unfold q_mg at hq; omega) (by unfold q_mg at hq; omega)) hF.1, hH.mono rfl rfl rfl rfl (fun k => hf _ _ (by decide) (by omega)) (fun k => hf _ _ (by decide) (by omega)) (hf _ _ (by decide) (by omega)) (hf _ _ (by decide) (by omega)), ?_⟩
  obtain ⟨c1, c2, c3, c4, c5, c6, c7⟩ := hT
  unfold Mt
  simp only [A_img_13, A_img_15, show ∀ i, A_img A n t 14 i 0 = A 14 i 0 from fun _ => rfl]
  exact ⟨by rw [hf _ _ (by omega) (by omega)]; exact c1, fun k a b => by rw [hf _ _ (by omega) (by omega)]; exact c2 k a b, by rw [hf _ _ (by omega) (by omega)]; exact c3, by rw [hf _ _ (by omega) (by omega)]; exact c4, by rw [hf _ _ (by omega) (by omega)]; exact c5, h1, h2⟩
theorem Mst.hires (hS : Mst f A) (hF : Wf A) {n : Int} {t : Int → Int} {u : Int → Int → Int} (hf : ∀ j k, ¬ j = 264 → ¬ j = 266 → ¬ (j = 219 ∧ (k = 64 ∨ k = 65)) → f' j k = f j k) (h1 : ∀ s, 0 ≤ s → s < A 0 4 0 → f' 264 s = t s) (h2 : f' 219 64 = n) (h3 : 0 ≤ f' 219 65 ∧ f' 219 65 < 30) (h4 : ∀ i s, 0 ≤ i → i < n → 0 ≤ s → s < A 0 4 0 → f' 266 (24 * ((f' 219 65 + 30 - i) % 30) + s) = u i s) : Mst f' (A_hs A n t u) := by
  obtain ⟨hG, hH, hT⟩ := hS
  refine ⟨hG.mono (A_hs_g n t u) (fun j k hq => hf j k (by unfold q_mg at hq; omega) (by unfold q_mg at hq; omega) (by unfold q_mg at hq; omega)) hF.1, ?_, ?_⟩
  · unfold Mh
    simp only [A_hs_13, A_hs_11, A_hs_12]
    exact ⟨h1, h2, h3, h4⟩
  · obtain ⟨c1, c2, c3, c4, c5, c6, c7⟩ := hT
    unfold Mt
    simp only [A_hs_13, show ∀ i, A_hs A n t u 14 i 0 = A 14 i 0 from fun _ => rfl, show ∀ i, A_hs A n t u 15 i 0 = A 15 i 0 from fun _ => rfl]
    exact ⟨by rw [hf _ _ (by omega) (by omega) (by omega)]; exact c1, fun k a b => by rw [hf _ _ (by omega) (by omega) (by omega)]; exact c2 k a b, by rw [hf _ _ (by omega) (by omega) (by omega)]; exact c3, by rw [hf _ _ (by omega) (by omega) (by omega)]; exact c4, by rw [hf _ _ (by omega) (by omega) (by omega)]; exact c5, by rw [hf _ _ (by omega) (by omega) (by omega)]; exact c6, fun k a b => by rw [hf _ _ (by omega) (by omega) (by omega)]; exact c7 k a b⟩
theorem mo_feed (hS : Mst f A) (hF : Wf A) {a b c d e : Int} : OkI D m_mo_feed [vr D 219, vi a, vi b, vi c, vi d, vi e] (Zg g h) f (fun x f' => x = S_feed A ∧ Mst f' (A_feed A a b c d e) ∧ q_hi f f') := by
  have hT := hS.2.2
  have e1 := hT.1
  have hw := hF.2.2.1
  refine OkI_of (L0 := [vr D 219, vi a, vi b, vi c, vi d, vi e, vu, vu]) mi_mo_feed rfl rfl (Nat.le_of_ble_eq_true rfl) (fun C hR => ?_)
  have loop : ∀ (m : Nat) (k : Int) (a7 : Value) (F : q_F), A 13 0 3 + 20 ≤ 1600 → k + m = 20 → 0 ≤ k → (∀ j i, ¬ (j = 220 ∧ A 13 0 3 ≤ i ∧ i < A 13 0 3 + k) → ¬ (j = 219 ∧ i = 1) → F j i = f j i) → F 219 1 = A 13 0 3 + k → (∀ r, 0 ≤ r → r < k → F 220 (A 13 0 3 + r) = byt (wrd a b c d e r) r) → V D C m_mo_feed 18 [vr D 219, vi a, vi b, vi c, vi d, vi e, vi k, a7] [] (Zg g h) F := by
    intro m
    induction m with
    | zero =>
      intro k a7 F hv hm h0 hf hl hb
      have hk : k = 20 := by omega
      subst hk
      refine V_iload_6 d_mo_feed_18 ?_
      refine V_bipush 20 d_mo_feed_20 (by decide) ?_
      refine V_icmp_ge 114 d_mo_feed_22 (by decide) (by omega) (by omega) (fun c22 => ?_) (fun c22 => by omega)
      refine V_aload_0 d_mo_feed_114 ?_
      refine V_getI d_mo_feed_115 fl_mo_182 is_mo ?_
      rw [hl]
      refine V_ireturn d_mo_feed_118 (hR _ _ ?_)
      refine ⟨by unfold S_feed; rw [if_pos hv], ?_, fun j i hj => hf j i (by omega) (by omega)⟩
      unfold A_feed; rw [if_pos hv]
      refine hS.tape hF (fun j i h1 h2 => hf j i (by omega) h2) hl (fun i i0 i1 => ?_)
      by_cases hi : i < A 13 0 3
      · rw [if_pos hi, hf _ _ (by omega) (by omega)]; exact hT.2.1 i i0 hi
      · rw [if_neg hi, ← hb (i - A 13 0 3) (by omega) (by omega), show A 13 0 3 + (i - A 13 0 3) = i by omega]
    | succ m ih =>
      intro k a7 F hv hm h0 hf hl hb
      have fin : ∀ (w : Int) (a7 : Value), w = wrd a b c d e k → V D C m_mo_feed 18 [vr D 219, vi a, vi b, vi c, vi d, vi e, vi (k + 1), a7] [] (Zg g h) (q_up (q_up F 220 (A 13 0 3 + k) (q_and (q_shr w (8 * (3 - k % 4))) 255)) 219 1 (A 13 0 3 + k + 1)) := by
        intro w a7 hw
        refine ih _ _ _ hv (by omega) (by omega) (fun j i h1 h2 => ?_) (by rw [q_up_eq]; omega) (fun r r0 r1 => ?_)
        · rw [q_up_ne (by omega), q_up_ne (by omega)]; exact hf j i (by omega) h2
        · rw [q_up_at (by decide)]
          by_cases er : r = k
          · rw [q_up_is (by omega), er, hw]; rfl
          · rw [q_up_ne (Or.inr (by omega))]; exact hb r r0 (by omega)
      refine V_iload_6 d_mo_feed_18 ?_
      refine V_bipush 20 d_mo_feed_20 (by decide) ?_
      refine V_icmp_ge 114 d_mo_feed_22 (by decide) (by omega) (by omega) (fun c22 => by omega) (fun c22 => ?_)
      refine V_iload_6 d_mo_feed_25 ?_
      refine V_iconst 4 d_mo_feed_27 ?_
      refine V_icmp_ge 35 d_mo_feed_28 (by decide) (by omega) (by omega) (fun c28 => ?_) (fun c28 => ?_)
      · skip
        refine V_iload_6 d_mo_feed_35 ?_
        refine V_bipush 8 d_mo_feed_37 (by decide) ?_
        refine V_icmp_ge 46 d_mo_feed_39 (by decide) (by omega) (by omega) (fun c39 => ?_) (fun c39 => ?_)
        · skip
          refine V_iload_6 d_mo_feed_46 ?_
          refine V_bipush 12 d_mo_feed_48 (by decide) ?_
          refine V_icmp_ge 57 d_mo_feed_50 (by decide) (by omega) (by omega) (fun c50 => ?_) (fun c50 => ?_)
          · skip
            refine V_iload_6 d_mo_feed_57 ?_
            refine V_bipush 16 d_mo_feed_59 (by decide) ?_
            refine V_icmp_ge 69 d_mo_feed_61 (by decide) (by omega) (by omega) (fun c61 => ?_) (fun c61 => ?_)
            · skip
              refine V_iload_5 d_mo_feed_69 ?_
              refine V_istore_7 d_mo_feed_71 rfl ?_
              refine V_aload_0 d_mo_feed_73 ?_
              refine V_getR d_mo_feed_74 fl_mo_7 is_mo r_mo_tape ?_
              refine V_aload_0 d_mo_feed_77 ?_
              refine V_getI d_mo_feed_78 fl_mo_182 is_mo ?_
              rw [hl]
              refine V_iload_7 d_mo_feed_81 ?_
              refine V_bipush 8 d_mo_feed_83 (by decide) ?_
              refine V_iconst 3 d_mo_feed_85 ?_
              refine V_iload_6 d_mo_feed_86 ?_
              refine V_iconst 4 d_mo_feed_88 ?_
              refine V_irem d_mo_feed_89 (by omega) (by omega) ?_
              refine V_isub d_mo_feed_90 ?_
              refine V_imul d_mo_feed_91 ?_
              refine V_ishr d_mo_feed_92 ?_
              refine V_sipush 255 d_mo_feed_93 (by decide) ?_
              refine V_iand d_mo_feed_96 ?_
              refine V_iast d_mo_feed_97 is_mo_tape (by omega) (by omega) ?_
              refine V_aload_0 d_mo_feed_98 ?_
              refine V_dup d_mo_feed_99 rfl ?_
              refine V_getI d_mo_feed_100 fl_mo_182 is_mo ?_
              rw [q_up_at (by decide), hl]
              refine V_iconst 1 d_mo_feed_103 ?_
              refine V_iadd d_mo_feed_104 ?_
              refine V_putI d_mo_feed_105 fl_mo_182 is_mo ?_
              refine V_iinc_6 d_mo_feed_108 rfl ?_
              refine V_goto 18 d_mo_feed_111 (by decide) ?_
              refine fin _ _ ?_
              unfold wrd; rw [if_neg (by omega), if_neg (by omega), if_neg (by omega), if_neg (by omega)]
            · skip
              refine V_iload_4 d_mo_feed_64 ?_
              refine V_goto 71 d_mo_feed_66 (by decide) ?_
              refine V_istore_7 d_mo_feed_71 rfl ?_
              refine V_aload_0 d_mo_feed_73 ?_
              refine V_getR d_mo_feed_74 fl_mo_7 is_mo r_mo_tape ?_
              refine V_aload_0 d_mo_feed_77 ?_
              refine V_getI d_mo_feed_78 fl_mo_182 is_mo ?_
              rw [hl]
              refine V_iload_7 d_mo_feed_81 ?_
              refine V_bipush 8 d_mo_feed_83 (by decide) ?_
              refine V_iconst 3 d_mo_feed_85 ?_
              refine V_iload_6 d_mo_feed_86 ?_
              refine V_iconst 4 d_mo_feed_88 ?_
              refine V_irem d_mo_feed_89 (by omega) (by omega) ?_
              refine V_isub d_mo_feed_90 ?_
              refine V_imul d_mo_feed_91 ?_
              refine V_ishr d_mo_feed_92 ?_
              refine V_sipush 255 d_mo_feed_93 (by decide) ?_
              refine V_iand d_mo_feed_96 ?_
              refine V_iast d_mo_feed_97 is_mo_tape (by omega) (by omega) ?_
              refine V_aload_0 d_mo_feed_98 ?_
              refine V_dup d_mo_feed_99 rfl ?_
              refine V_getI d_mo_feed_100 fl_mo_182 is_mo ?_
              rw [q_up_at (by decide), hl]
              refine V_iconst 1 d_mo_feed_103 ?_
              refine V_iadd d_mo_feed_104 ?_
              refine V_putI d_mo_feed_105 fl_mo_182 is_mo ?_
              refine V_iinc_6 d_mo_feed_108 rfl ?_
              refine V_goto 18 d_mo_feed_111 (by decide) ?_
              refine fin _ _ ?_
              unfold wrd; rw [if_neg (by omega), if_neg (by omega), if_neg (by omega), if_pos (by omega)]
          · skip
            refine V_iload_3 d_mo_feed_53 ?_
            refine V_goto 71 d_mo_feed_54 (by decide) ?_
            refine V_istore_7 d_mo_feed_71 rfl ?_
            refine V_aload_0 d_mo_feed_73 ?_
            refine V_getR d_mo_feed_74 fl_mo_7 is_mo r_mo_tape ?_
            refine V_aload_0 d_mo_feed_77 ?_
            refine V_getI d_mo_feed_78 fl_mo_182 is_mo ?_
            rw [hl]
            refine V_iload_7 d_mo_feed_81 ?_
            refine V_bipush 8 d_mo_feed_83 (by decide) ?_
            refine V_iconst 3 d_mo_feed_85 ?_
            refine V_iload_6 d_mo_feed_86 ?_
            refine V_iconst 4 d_mo_feed_88 ?_
            refine V_irem d_mo_feed_89 (by omega) (by omega) ?_
            refine V_isub d_mo_feed_90 ?_
            refine V_imul d_mo_feed_91 ?_
            refine V_ishr d_mo_feed_92 ?_
            refine V_sipush 255 d_mo_feed_93 (by decide) ?_
            refine V_iand d_mo_feed_96 ?_
            refine V_iast d_mo_feed_97 is_mo_tape (by omega) (by omega) ?_
            refine V_aload_0 d_mo_feed_98 ?_
            refine V_dup d_mo_feed_99 rfl ?_
            refine V_getI d_mo_feed_100 fl_mo_182 is_mo ?_
            rw [q_up_at (by decide), hl]
            refine V_iconst 1 d_mo_feed_103 ?_
            refine V_iadd d_mo_feed_104 ?_
            refine V_putI d_mo_feed_105 fl_mo_182 is_mo ?_
            refine V_iinc_6 d_mo_feed_108 rfl ?_
            refine V_goto 18 d_mo_feed_111 (by decide) ?_
            refine fin _ _ ?_
            unfold wrd; rw [if_neg (by omega), if_neg (by omega), if_pos (by omega)]
        · skip
          refine V_iload_2 d_mo_feed_42 ?_
          refine V_goto 71 d_mo_feed_43 (by decide) ?_
          refine V_istore_7 d_mo_feed_71 rfl ?_
          refine V_aload_0 d_mo_feed_73 ?_
          refine V_getR d_mo_feed_74 fl_mo_7 is_mo r_mo_tape ?_
          refine V_aload_0 d_mo_feed_77 ?_
          refine V_getI d_mo_feed_78 fl_mo_182 is_mo ?_
          rw [hl]
          refine V_iload_7 d_mo_feed_81 ?_
          refine V_bipush 8 d_mo_feed_83 (by decide) ?_
          refine V_iconst 3 d_mo_feed_85 ?_
          refine V_iload_6 d_mo_feed_86 ?_
          refine V_iconst 4 d_mo_feed_88 ?_
          refine V_irem d_mo_feed_89 (by omega) (by omega) ?_
          refine V_isub d_mo_feed_90 ?_
          refine V_imul d_mo_feed_91 ?_
          refine V_ishr d_mo_feed_92 ?_
          refine V_sipush 255 d_mo_feed_93 (by decide) ?_
          refine V_iand d_mo_feed_96 ?_
          refine V_iast d_mo_feed_97 is_mo_tape (by omega) (by omega) ?_
          refine V_aload_0 d_mo_feed_98 ?_
          refine V_dup d_mo_feed_99 rfl ?_
          refine V_getI d_mo_feed_100 fl_mo_182 is_mo ?_
          rw [q_up_at (by decide), hl]
          refine V_iconst 1 d_mo_feed_103 ?_
          refine V_iadd d_mo_feed_104 ?_
          refine V_putI d_mo_feed_105 fl_mo_182 is_mo ?_
          refine V_iinc_6 d_mo_feed_108 rfl ?_
          refine V_goto 18 d_mo_feed_111 (by decide) ?_
          refine fin _ _ ?_
          unfold wrd; rw [if_neg (by omega), if_pos (by omega)]
      · skip
        refine V_iload_1 d_mo_feed_31 ?_
        refine V_goto 71 d_mo_feed_32 (by decide) ?_
        refine V_istore_7 d_mo_feed_71 rfl ?_
        refine V_aload_0 d_mo_feed_73 ?_
        refine V_getR d_mo_feed_74 fl_mo_7 is_mo r_mo_tape ?_
        refine V_aload_0 d_mo_feed_77 ?_
        refine V_getI d_mo_feed_78 fl_mo_182 is_mo ?_
        rw [hl]
        refine V_iload_7 d_mo_feed_81 ?_
        refine V_bipush 8 d_mo_feed_83 (by decide) ?_
        refine V_iconst 3 d_mo_feed_85 ?_
        refine V_iload_6 d_mo_feed_86 ?_
        refine V_iconst 4 d_mo_feed_88 ?_
        refine V_irem d_mo_feed_89 (by omega) (by omega) ?_
        refine V_isub d_mo_feed_90 ?_
        refine V_imul d_mo_feed_91 ?_
        refine V_ishr d_mo_feed_92 ?_
        refine V_sipush 255 d_mo_feed_93 (by decide) ?_
        refine V_iand d_mo_feed_96 ?_
        refine V_iast d_mo_feed_97 is_mo_tape (by omega) (by omega) ?_
        refine V_aload_0 d_mo_feed_98 ?_
        refine V_dup d_mo_feed_99 rfl ?_
        refine V_getI d_mo_feed_100 fl_mo_182 is_mo ?_
        rw [q_up_at (by decide), hl]
        refine V_iconst 1 d_mo_feed_103 ?_
        refine V_iadd d_mo_feed_104 ?_
        refine V_putI d_mo_feed_105 fl_mo_182 is_mo ?_
        refine V_iinc_6 d_mo_feed_108 rfl ?_
        refine V_goto 18 d_mo_feed_111 (by decide) ?_
        refine fin _ _ ?_
        unfold wrd; rw [if_pos (by omega)]
  refine V_aload_0 d_mo_feed_0 ?_
  refine V_getI d_mo_feed_1 fl_mo_182 is_mo ?_
  rw [e1]
  refine V_bipush 20 d_mo_feed_4 (by decide) ?_
  refine V_iadd d_mo_feed_6 ?_
  refine V_sipush 1600 d_mo_feed_7 (by decide) ?_
  refine V_icmp_le 15 d_mo_feed_10 (by decide) (by omega) (by omega) (fun c10 => ?_) (fun c10 => ?_)
  · skip
    refine V_iconst 0 d_mo_feed_15 ?_
    refine V_istore_6 d_mo_feed_16 rfl ?_
    exact loop 20 _ _ f (by omega) (by decide) (by decide) (fun _ _ _ _ => rfl) (by omega) (fun r a b => by omega)
  · skip
    refine V_iconst (-1) d_mo_feed_13 ?_
    refine V_ireturn d_mo_feed_14 (hR _ _ ?_)
    refine ⟨by unfold S_feed; rw [if_neg (by omega)], ?_, q_hi.refl _⟩
    unfold A_feed; rw [if_neg (by omega)]; exact hS
theorem mo_end (hS : Mst f A) (hF : Wf A) {n : Int} (hn : -2147483648 ≤ n ∧ n < 2147483648) : OkI D m_mo_end [vr D 219, vi n] (Zg g h) f (fun x f' => x = S_end A n ∧ Mst f' (A_end A n) ∧ q_hi f f') := by
  have hT := hS.2.2
  have e1 := hT.1
  have hw := hF.2.2.1
  refine OkB_of (L0 := [vr D 219, vi n]) mi_mo_end rfl rfl (Nat.le_of_ble_eq_true rfl) (fun C hR => ?_)
  refine V_iload_1 d_mo_end_0 ?_
  refine V_if_lt 12 d_mo_end_1 (by decide) (by omega) (fun c1 => ?_) (fun c1 => ?_)
  · skip
    refine V_iconst 0 d_mo_end_12 ?_
    refine V_ireturn d_mo_end_13 (hR _ _ (by decide) ?_)
    refine ⟨by unfold S_end; rw [if_neg (by omega)], ?_, q_hi.refl _⟩
    unfold A_end; rw [if_neg (by omega)]; exact hS
  · skip
    refine V_iload_1 d_mo_end_4 ?_
    refine V_aload_0 d_mo_end_5 ?_
    refine V_getI d_mo_end_6 fl_mo_182 is_mo ?_
    rw [e1]
    refine V_icmp_le 14 d_mo_end_9 (by decide) (by omega) (by omega) (fun c9 => ?_) (fun c9 => ?_)
    · skip
      refine V_aload_0 d_mo_end_14 ?_
      refine V_iload_1 d_mo_end_15 ?_
      refine V_putI d_mo_end_16 fl_mo_182 is_mo ?_
      refine V_iconst 1 d_mo_end_19 ?_
      refine V_ireturn d_mo_end_20 (hR _ _ (by decide) ?_)
      refine ⟨by unfold S_end; rw [if_pos (by omega)], ?_, fun j k hj => q_up_at (by omega)⟩
      unfold A_end; rw [if_pos (by omega)]
      exact hS.tape hF (fun j k h1 h2 => q_up_ne (by omega)) (q_up_eq _ _ _ _) (fun k k0 k1 => by rw [q_up_at (by decide)]; exact hT.2.1 k k0 (by omega))
    · skip
      refine V_iconst 0 d_mo_end_12 ?_
      refine V_ireturn d_mo_end_13 (hR _ _ (by decide) ?_)
      refine ⟨by unfold S_end; rw [if_neg (by omega)], ?_, q_hi.refl _⟩
      unfold A_end; rw [if_neg (by omega)]; exact hS
def q_keptM (f f' : q_F) (A : q_As) : Prop := (∀ j k, ¬ j = 266 → ¬ (j = 219 ∧ (k = 64 ∨ k = 65)) → f' j k = f j k) ∧ f' 219 64 = (if A 13 0 0 < 30 then A 13 0 0 + 1 else 30) ∧ (0 ≤ f' 219 65 ∧ f' 219 65 < 30) ∧
  ∀ i s, 0 ≤ i → i < (if A 13 0 0 < 30 then A 13 0 0 + 1 else 30) → 0 ≤ s → s < A 0 4 0 → f' 266 (24 * ((f' 219 65 + 30 - i) % 30) + s) = (if i = 0 then A 11 s 0 else A 12 (i - 1) s)
theorem ok_keepsHires (hH : Mh f A) (hF : Wf A) : OkV D m_mo_keepsHires [vr D 219] (Zg g h) f (fun f' => q_keptM f f' A) := by
  have hn := hF.nn
  have hb := hF.2.1.2.2.1
  obtain ⟨k1, k2, k3, k4⟩ := hH
  generalize ho : f 219 65 = o at *
  refine OkV_of (L0 := [vr D 219, vu]) mi_mo_keepsHires rfl rfl (Nat.le_of_ble_eq_true rfl) (fun C hR => ?_)
  have loop : ∀ (m : Nat) (i : Int) (F : q_F), i + m = 24 → 0 ≤ i → (∀ j k, ¬ (j = 266 ∧ 24 * ((o + 1) % 30) ≤ k ∧ k < 24 * ((o + 1) % 30) + 24) → ¬ (j = 219 ∧ k = 65) → F j k = f j k) → F 219 65 = (o + 1) % 30 → (∀ s, 0 ≤ s → s < i → F 266 (24 * ((o + 1) % 30) + s) = f 264 s) → V D C m_mo_keepsHires 15 [vr D 219, vi i] [] (Zg g h) F := by
    intro m
    induction m with
    | zero =>
      intro i F hm h0 hf h65 hr
      have e64 : F 219 64 = A 13 0 0 := by rw [hf _ _ (by omega) (by omega)]; exact k2
      have rows : ∀ (n : Int), n ≤ 30 → n ≤ A 13 0 0 + 1 → ∀ i s, 0 ≤ i → i < n → 0 ≤ s → s < A 0 4 0 → F 266 (24 * (((o + 1) % 30 + 30 - i) % 30) + s) = (if i = 0 then A 11 s 0 else A 12 (i - 1) s) := by
        intro n n1 n2 i s i0 i1 s0 s1
        by_cases e : i = 0
        · rw [if_pos e, show ((o + 1) % 30 + 30 - i) % 30 = (o + 1) % 30 by omega, hr s s0 (by omega)]; exact k1 s s0 s1
        · rw [if_neg e, hf _ _ (by omega) (by omega), ← k4 (i - 1) s (by omega) (by omega) s0 s1, show ((o + 1) % 30 + 30 - i) % 30 = (o + 30 - (i - 1)) % 30 by omega]
      refine V_iload_1 d_mo_keepsHires_15 ?_
      refine V_bipush 24 d_mo_keepsHires_16 (by decide) ?_
      refine V_icmp_ge 47 d_mo_keepsHires_18 (by decide) (by omega) (by omega) (fun c18 => ?_) (fun c18 => by omega)
      refine V_aload_0 d_mo_keepsHires_47 ?_
      refine V_getI d_mo_keepsHires_48 fl_mo_341 is_mo ?_
      rw [e64]
      refine V_bipush 30 d_mo_keepsHires_51 (by decide) ?_
      refine V_icmp_ge 66 d_mo_keepsHires_53 (by decide) (by omega) (by omega) (fun c53 => ?_) (fun c53 => ?_)
      · skip
        refine V_return d_mo_keepsHires_66 (hR _ ?_)
        unfold q_keptM
        rw [if_neg (by omega)]
        exact ⟨fun j k a b => hf j k (by omega) (by omega), by omega, by omega, by rw [h65]; exact rows 30 (by decide) (by omega)⟩
      · skip
        refine V_aload_0 d_mo_keepsHires_56 ?_
        refine V_dup d_mo_keepsHires_57 rfl ?_
        refine V_getI d_mo_keepsHires_58 fl_mo_341 is_mo ?_
        rw [e64]
        refine V_iconst 1 d_mo_keepsHires_61 ?_
        refine V_iadd d_mo_keepsHires_62 ?_
        refine V_putI d_mo_keepsHires_63 fl_mo_341 is_mo ?_
        refine V_return d_mo_keepsHires_66 (hR _ ?_)
        unfold q_keptM
        rw [if_pos (by omega), q_up_eq, q_up_ne (a := 219) (b := 65) (Or.inr (by decide)), h65]
        refine ⟨fun j k a b => by rw [q_up_ne (by omega)]; exact hf j k (by omega) (by omega), rfl, by omega, fun i s a b c d => ?_⟩
        rw [q_up_at (by decide)]
        exact rows (A 13 0 0 + 1) (by omega) (by omega) i s a b c d
    | succ m ih =>
      intro i F hm h0 hf h65 hr
      have e1 : F 264 i = f 264 i := hf _ _ (by omega) (by omega)
      refine V_iload_1 d_mo_keepsHires_15 ?_
      refine V_bipush 24 d_mo_keepsHires_16 (by decide) ?_
      refine V_icmp_ge 47 d_mo_keepsHires_18 (by decide) (by omega) (by omega) (fun c18 => by omega) (fun c18 => ?_)
      refine V_aload_0 d_mo_keepsHires_21 ?_
      refine V_getR d_mo_keepsHires_22 fl_mo_154 is_mo r_mo_kept ?_
      refine V_bipush 24 d_mo_keepsHires_25 (by decide) ?_
      refine V_aload_0 d_mo_keepsHires_27 ?_
      refine V_getI d_mo_keepsHires_28 fl_mo_437 is_mo ?_
      rw [h65]
      refine V_imul d_mo_keepsHires_31 ?_
      refine V_iload_1 d_mo_keepsHires_32 ?_
      refine V_iadd d_mo_keepsHires_33 ?_
      refine V_aload_0 d_mo_keepsHires_34 ?_
      refine V_getR d_mo_keepsHires_35 fl_mo_148 is_mo r_mo_hired ?_
      refine V_iload_1 d_mo_keepsHires_38 ?_
      refine V_iald d_mo_keepsHires_39 is_mo_hired (by omega) (by omega) ?_
      rw [e1]
      refine V_iast d_mo_keepsHires_40 is_mo_kept (by omega) (by omega) ?_
      refine V_iinc_1 d_mo_keepsHires_41 rfl ?_
      refine V_goto 15 d_mo_keepsHires_44 (by decide) ?_
      refine ih _ _ (by omega) (by omega) (fun j k a b => by rw [q_up_ne (by omega)]; exact hf j k a b) (by rw [q_up_at (by decide)]; exact h65) (fun s s0 s1 => ?_)
      by_cases e : s = i
      · rw [q_up_is (by omega), e]
      · rw [q_up_ne (Or.inr (by omega))]; exact hr s s0 (by omega)
  refine V_aload_0 d_mo_keepsHires_0 ?_
  refine V_aload_0 d_mo_keepsHires_1 ?_
  refine V_getI d_mo_keepsHires_2 fl_mo_437 is_mo ?_
  rw [ho]
  refine V_iconst 1 d_mo_keepsHires_5 ?_
  refine V_iadd d_mo_keepsHires_6 ?_
  refine V_bipush 30 d_mo_keepsHires_7 (by decide) ?_
  refine V_irem d_mo_keepsHires_9 (by omega) (by omega) ?_
  refine V_putI d_mo_keepsHires_10 fl_mo_437 is_mo ?_
  refine V_iconst 0 d_mo_keepsHires_13 ?_
  refine V_istore_1 d_mo_keepsHires_14 rfl ?_
  exact loop 24 _ _ (by decide) (by decide) (fun j k a b => q_up_ne (by omega)) (q_up_eq _ _ _ _) (fun s a b => by omega)
theorem wset_held {s sh : Int} (h : ¬ sh = -1) : wset A s sh = held A sh := by unfold wset; rw [if_neg h]
theorem mo_hire (hS : Mst f A) (hF : Wf A) {s sh : Int} (hs : -2147483648 ≤ s ∧ s < 2147483648) (hh : -2147483648 ≤ sh ∧ sh < 2147483648) : OkI D m_mo_hire [vr D 219, vi s, vi sh] (Zg g h) f (fun x f' => x = S_hire A s sh ∧ Mst f' (A_hire A s sh) ∧ q_hi f f') := by
  have hn := hF.nn
  have hS' := hS
  obtain ⟨hG, hH, hT⟩ := hS'
  have hno : ¬ canHire A s sh → 0 = S_hire A s sh ∧ Mst f (A_hire A s sh) ∧ q_hi f f := fun h => by
    unfold S_hire A_hire; rw [if_neg h, if_neg h]; exact ⟨rfl, hS, q_hi.refl _⟩
  refine OkB_of (L0 := [vr D 219, vi s, vi sh]) mi_mo_hire rfl rfl (Nat.le_of_ble_eq_true rfl) (fun C hR => ?_)
  have done : canHire A s sh → ∀ f', q_keptM f f' A → (1 : Int) = S_hire A s sh ∧ Mst (q_up f' 264 s sh) (A_hire A s sh) ∧ q_hi f (q_up f' 264 s sh) := by
    rintro hc f' ⟨k1, k3, k4, k5⟩
    unfold S_hire A_hire; rw [if_pos hc, if_pos hc]
    refine ⟨rfl, hS.hires hF (fun j k h1 h2 h3 => ?_) (fun t t0 t1 => ?_) ?_ ?_ (fun i t i0 i1 t0 t1 => ?_), fun j k hj => ?_⟩
    · rw [q_up_at h1]; exact k1 j k h2 h3
    · by_cases e : t = s
      · rw [e, if_pos rfl, q_up_eq]
      · rw [if_neg e, q_up_ne (Or.inr e), k1 _ _ (by decide) (by omega)]; exact hH.1 t t0 t1
    · rw [q_up_at (by decide)]; exact k3
    · rw [q_up_at (by decide)]; exact k4
    · rw [q_up_at (a := 219) (by decide), q_up_at (by omega)]; exact k5 i t i0 i1 t0 t1
    · rw [q_up_at (by omega)]; exact k1 j k (by omega) (by omega)
  refine V_aload_0 d_mo_hire_0 ?_
  refine V_iload_1 d_mo_hire_1 ?_
  refine V_cvI1 d_mo_hire_2 ml_mo_456 mv_mo_isSeen (by decide) (Nat.le_of_ble_eq_true rfl) is_mo (ok_isSeen hG hF.1 hs) ?_
  rintro x2 f2 ⟨hx2, e2⟩
  rw [e2]; clear e2 f2
  refine V_if_eq 31 d_mo_hire_5 (by decide) (by omega) (fun c5 => ?_) (fun c5 => ?_)
  · skip
    refine V_iconst 0 d_mo_hire_31 ?_
    refine V_ireturn d_mo_hire_32 (hR _ _ (by decide) ?_)
    exact hno (fun hc => by have := hc.2.2.1; omega)
  · skip
    have e11 := hH.at hF.2.1 (s := s) (by omega) (by omega)
    refine V_iload_2 d_mo_hire_8 ?_
    refine V_iconst (-1) d_mo_hire_9 ?_
    refine V_icmp_eq 21 d_mo_hire_10 (by decide) (by omega) (by omega) (fun c10 => ?_) (fun c10 => ?_)
    · skip
      refine V_aload_0 d_mo_hire_21 ?_
      refine V_getR d_mo_hire_22 fl_mo_148 is_mo r_mo_hired ?_
      refine V_iload_1 d_mo_hire_25 ?_
      refine V_iald d_mo_hire_26 is_mo_hired (by omega) (by omega) ?_
      rw [e11.1]
      refine V_iload_2 d_mo_hire_27 ?_
      refine V_icmp_ne 33 d_mo_hire_28 (by decide) (by omega) (by omega) (fun c28 => ?_) (fun c28 => ?_)
      · skip
        refine V_iload_2 d_mo_hire_33 ?_
        refine V_iconst (-1) d_mo_hire_34 ?_
        refine V_icmp_eq 56 d_mo_hire_35 (by decide) (by omega) (by omega) (fun c35 => ?_) (fun c35 => by omega)
        refine V_aload_0 d_mo_hire_56 ?_
        refine V_cvV0 d_mo_hire_57 ml_mo_506 mv_mo_keepsHires (by decide) (Nat.le_of_ble_eq_true rfl) is_mo (ok_keepsHires hH hF) ?_
        rintro f' hk
        refine V_aload_0 d_mo_hire_60 ?_
        refine V_getR d_mo_hire_61 fl_mo_148 is_mo r_mo_hired ?_
        refine V_iload_1 d_mo_hire_64 ?_
        refine V_iload_2 d_mo_hire_65 ?_
        refine V_iast d_mo_hire_66 is_mo_hired (by omega) (by omega) ?_
        refine V_iconst 1 d_mo_hire_67 ?_
        refine V_ireturn d_mo_hire_68 (hR _ _ (by decide) ?_)
        refine done ⟨by omega, by omega, by omega, Or.inl (by omega)⟩ _ hk
      · skip
        refine V_iconst 0 d_mo_hire_31 ?_
        refine V_ireturn d_mo_hire_32 (hR _ _ (by decide) ?_)
        exact hno (fun hc => by have := hc.2.2.1; omega)
    · skip
      refine V_aload_0 d_mo_hire_13 ?_
      refine V_iload_2 d_mo_hire_14 ?_
      refine V_cvI1 d_mo_hire_15 ml_mo_453 mv_mo_isShade (by decide) (Nat.le_of_ble_eq_true rfl) is_mo (okm_isShade hG hF.1 hh) ?_
      rintro x15 f2 ⟨hx15, e2⟩
      rw [e2]; clear e2 f2
      refine V_if_eq 31 d_mo_hire_18 (by decide) (by omega) (fun c18 => ?_) (fun c18 => ?_)
      · skip
        refine V_iconst 0 d_mo_hire_31 ?_
        refine V_ireturn d_mo_hire_32 (hR _ _ (by decide) ?_)
        exact hno (fun hc => by have := hc.2.2.1; omega)
      · skip
        refine V_aload_0 d_mo_hire_21 ?_
        refine V_getR d_mo_hire_22 fl_mo_148 is_mo r_mo_hired ?_
        refine V_iload_1 d_mo_hire_25 ?_
        refine V_iald d_mo_hire_26 is_mo_hired (by omega) (by omega) ?_
        rw [e11.1]
        refine V_iload_2 d_mo_hire_27 ?_
        refine V_icmp_ne 33 d_mo_hire_28 (by decide) (by omega) (by omega) (fun c28 => ?_) (fun c28 => ?_)
        · skip
          refine V_iload_2 d_mo_hire_33 ?_
          refine V_iconst (-1) d_mo_hire_34 ?_
          refine V_icmp_eq 56 d_mo_hire_35 (by decide) (by omega) (by omega) (fun c35 => by omega) (fun c35 => ?_)
          refine V_aload_0 d_mo_hire_38 ?_
          refine V_aload_0 d_mo_hire_39 ?_
          refine V_iload_2 d_mo_hire_40 ?_
          refine V_cvI1 d_mo_hire_41 ml_mo_440 mv_mo_hiredBy (by decide) (Nat.le_of_ble_eq_true rfl) is_mo (ok_hiredBy hG hH hF.1 hF.2.1 hh) ?_
          rintro _ f2 ⟨rfl, e2⟩
          rw [e2]; clear e2 f2
          refine V_iconst 1 d_mo_hire_44 ?_
          refine V_iload_1 d_mo_hire_45 ?_
          refine V_ishl d_mo_hire_46 ?_
          refine V_ior d_mo_hire_47 ?_
          rw [mB_one (by omega), mB_or]
          refine V_cvI1 d_mo_hire_48 ml_mo_465 mv_mo_canBeAll (by decide) (Nat.le_of_ble_eq_true rfl) is_mo (ok_canBeAll hG hF.1 _ (own_lt (by omega))) ?_
          rintro x48 f2 ⟨hx48, e2⟩
          rw [e2]; clear e2 f2
          refine V_if_ne 56 d_mo_hire_51 (by decide) (by omega) (fun c51 => ?_) (fun c51 => ?_)
          · skip
            refine V_aload_0 d_mo_hire_56 ?_
            refine V_cvV0 d_mo_hire_57 ml_mo_506 mv_mo_keepsHires (by decide) (Nat.le_of_ble_eq_true rfl) is_mo (ok_keepsHires hH hF) ?_
            rintro f' hk
            refine V_aload_0 d_mo_hire_60 ?_
            refine V_getR d_mo_hire_61 fl_mo_148 is_mo r_mo_hired ?_
            refine V_iload_1 d_mo_hire_64 ?_
            refine V_iload_2 d_mo_hire_65 ?_
            refine V_iast d_mo_hire_66 is_mo_hired (by omega) (by omega) ?_
            refine V_iconst 1 d_mo_hire_67 ?_
            refine V_ireturn d_mo_hire_68 (hR _ _ (by decide) ?_)
            have hk2 := allP_own hF (show 0 ≤ s ∧ s < A 0 4 0 by omega) (show 0 ≤ sh by omega)
            rw [wset_held (by omega)] at hk2
            refine done ⟨by omega, by omega, by omega, Or.inr (hk2.mp (q_b1 hx48 c51))⟩ _ hk
          · skip
            refine V_iconst 0 d_mo_hire_54 ?_
            refine V_ireturn d_mo_hire_55 (hR _ _ (by decide) ?_)
            have hk := allP_own hF (show 0 ≤ s ∧ s < A 0 4 0 by omega) (show 0 ≤ sh by omega)
            rw [wset_held (by omega)] at hk
            exact hno (fun hc => hc.2.2.2.elim (fun e => by omega) (fun e => q_b0 hx48 c51 (hk.mpr e)))
        · skip
          refine V_iconst 0 d_mo_hire_31 ?_
          refine V_ireturn d_mo_hire_32 (hR _ _ (by decide) ?_)
          exact hno (fun hc => by have := hc.2.2.1; omega)
theorem mo_undo (hS : Mst f A) (hF : Wf A) : OkI D m_mo_undo [vr D 219] (Zg g h) f (fun x f' => x = S_undo A ∧ Mst f' (A_undo A) ∧ q_hi f f') := by
  have hn := hF.nn
  have hb := hF.2.1.2.2.1
  have hS' := hS
  obtain ⟨hG, hH, hT⟩ := hS'
  obtain ⟨k1, k2, k3, k4⟩ := hH
  generalize ho : f 219 65 = o at *
  refine OkB_of (L0 := [vr D 219, vu]) mi_mo_undo rfl rfl (Nat.le_of_ble_eq_true rfl) (fun C hR => ?_)
  have loop : ∀ (m : Nat) (i : Int) (F : q_F), ¬ A 13 0 0 = 0 → i + m = 24 → 0 ≤ i → (∀ j k, ¬ j = 264 → F j k = f j k) → (∀ s, 0 ≤ s → s < i → F 264 s = f 266 (24 * o + s)) → V D C m_mo_undo 11 [vr D 219, vi i] [] (Zg g h) F := by
    intro m
    induction m with
    | zero =>
      intro i F hz hm h0 hf hr
      have e65 : F 219 65 = o := by rw [hf _ _ (by decide)]; exact ho
      have e64 : F 219 64 = A 13 0 0 := by rw [hf _ _ (by decide)]; exact k2
      refine V_iload_1 d_mo_undo_11 ?_
      refine V_bipush 24 d_mo_undo_12 (by decide) ?_
      refine V_icmp_ge 43 d_mo_undo_14 (by decide) (by omega) (by omega) (fun c14 => ?_) (fun c14 => by omega)
      refine V_aload_0 d_mo_undo_43 ?_
      refine V_aload_0 d_mo_undo_44 ?_
      refine V_getI d_mo_undo_45 fl_mo_437 is_mo ?_
      rw [e65]
      refine V_bipush 30 d_mo_undo_48 (by decide) ?_
      refine V_iadd d_mo_undo_50 ?_
      refine V_iconst 1 d_mo_undo_51 ?_
      refine V_isub d_mo_undo_52 ?_
      refine V_bipush 30 d_mo_undo_53 (by decide) ?_
      refine V_irem d_mo_undo_55 (by omega) (by omega) ?_
      refine V_putI d_mo_undo_56 fl_mo_437 is_mo ?_
      refine V_aload_0 d_mo_undo_59 ?_
      refine V_dup d_mo_undo_60 rfl ?_
      refine V_getI d_mo_undo_61 fl_mo_341 is_mo ?_
      rw [q_up_ne (Or.inr (by decide)), e64]
      refine V_iconst 1 d_mo_undo_64 ?_
      refine V_isub d_mo_undo_65 ?_
      refine V_putI d_mo_undo_66 fl_mo_341 is_mo ?_
      refine V_iconst 1 d_mo_undo_69 ?_
      refine V_ireturn d_mo_undo_70 (hR _ _ (by decide) ?_)
      unfold S_undo A_undo; rw [if_neg hz, if_neg hz]
      refine ⟨rfl, hS.hires hF (fun j k h1 h2 h3 => ?_) (fun s s0 s1 => ?_) ?_ ?_ (fun i s i0 i1 s0 s1 => ?_), fun j k hj => ?_⟩
      · rw [q_up_ne (by omega), q_up_ne (by omega)]; exact hf j k h1
      · rw [q_up_at (by decide), q_up_at (by decide), hr s s0 (by omega), ← k4 0 s (by decide) (by omega) s0 s1, show (o + 30 - 0) % 30 = o by omega]
      · rw [q_up_eq]
      · rw [q_up_ne (Or.inr (by decide)), q_up_eq]; omega
      · rw [q_up_ne (a := 219) (b := 65) (Or.inr (by decide)), q_up_eq, q_up_at (by decide), q_up_at (by decide), hf _ _ (by decide), ← k4 (i + 1) s (by omega) (by omega) s0 s1, show ((o + 30 - 1) % 30 + 30 - i) % 30 = (o + 30 - (i + 1)) % 30 by omega]
      · rw [q_up_at (by omega), q_up_at (by omega)]; exact hf j k (by omega)
    | succ m ih =>
      intro i F hz hm h0 hf hr
      have e65 : F 219 65 = o := by rw [hf _ _ (by decide)]; exact ho
      refine V_iload_1 d_mo_undo_11 ?_
      refine V_bipush 24 d_mo_undo_12 (by decide) ?_
      refine V_icmp_ge 43 d_mo_undo_14 (by decide) (by omega) (by omega) (fun c14 => by omega) (fun c14 => ?_)
      refine V_aload_0 d_mo_undo_17 ?_
      refine V_getR d_mo_undo_18 fl_mo_148 is_mo r_mo_hired ?_
      refine V_iload_1 d_mo_undo_21 ?_
      refine V_aload_0 d_mo_undo_22 ?_
      refine V_getR d_mo_undo_23 fl_mo_154 is_mo r_mo_kept ?_
      refine V_bipush 24 d_mo_undo_26 (by decide) ?_
      refine V_aload_0 d_mo_undo_28 ?_
      refine V_getI d_mo_undo_29 fl_mo_437 is_mo ?_
      rw [e65]
      refine V_imul d_mo_undo_32 ?_
      refine V_iload_1 d_mo_undo_33 ?_
      refine V_iadd d_mo_undo_34 ?_
      refine V_iald d_mo_undo_35 is_mo_kept (by omega) (by omega) ?_
      rw [hf _ _ (by decide)]
      refine V_iast d_mo_undo_36 is_mo_hired (by omega) (by omega) ?_
      refine V_iinc_1 d_mo_undo_37 rfl ?_
      refine V_goto 11 d_mo_undo_40 (by decide) ?_
      refine ih _ _ hz (by omega) (by omega) (fun j k a => by rw [q_up_at a]; exact hf j k a) (fun s s0 s1 => ?_)
      by_cases e : s = i
      · rw [q_up_is e, e]
      · rw [q_up_ne (Or.inr e)]; exact hr s s0 (by omega)
  refine V_aload_0 d_mo_undo_0 ?_
  refine V_getI d_mo_undo_1 fl_mo_341 is_mo ?_
  rw [k2]
  refine V_if_ne 9 d_mo_undo_4 (by decide) (by omega) (fun c4 => ?_) (fun c4 => ?_)
  · skip
    refine V_iconst 0 d_mo_undo_9 ?_
    refine V_istore_1 d_mo_undo_10 rfl ?_
    exact loop 24 _ f (by omega) (by decide) (by decide) (fun _ _ _ => rfl) (fun s a b => by omega)
  · skip
    refine V_iconst 0 d_mo_undo_7 ?_
    refine V_ireturn d_mo_undo_8 (hR _ _ (by decide) ?_)
    unfold S_undo A_undo; rw [if_pos (by omega), if_pos (by omega)]
    exact ⟨rfl, hS, q_hi.refl _⟩
end MO6
