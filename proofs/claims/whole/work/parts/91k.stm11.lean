/-! the class reads a text: the loop over statements -/
section RFS
variable {D : q_D} {C : q_C} {M : q_M} {pc N cs ss : Nat} {L st : List Value} {rf rf' : Int → Int → Int} {f : q_F}
/-- references in slots that are not there count for nothing -/
theorem V_rf (hrf : ∀ j k : Int, (j = 3 ∧ 3 ≤ k) ∨ (j = 0 ∧ 10 ≤ k) ∨ rf j k = rf' j k) (k : V D C M pc L st (N, rf', cs, ss) f) : V D C M pc L st (N, rf, cs, ss) f := by
  intro hC H ls locs hW hL hlo
  refine k hC H ls locs ?_ hL hlo
  obtain ⟨h1, h2, h3⟩ := hW
  refine ⟨h1, h2, fun j hj => ⟨fun c hc => ?_, fun hk => ?_⟩⟩
  · refine t_OB.to ((h3 j hj).1 c hc) (fun i hi => ?_)
    unfold q_sv
    have : rf (j : Int) i = rf' j i := by
      rcases hrf j i with ⟨e, e2⟩ | ⟨e, e2⟩ | e
      · have ej : j = 3 := by omega
        subst ej
        have : c = (R_gr, F_gr, 3) := by
          have h9 : q_cl[q_k ((3 : Nat) : Int)]? = some (R_gr, F_gr, 3) := rfl
          rw [h9] at hc; cases hc; rfl
        rw [this] at hi
        have hi : i < 3 := hi
        omega
      · have ej : j = 0 := by omega
        subst ej
        have : c = (R_hs, F_hs, 10) := by
          have h9 : q_cl[q_k ((0 : Nat) : Int)]? = some (R_hs, F_hs, 10) := rfl
          rw [h9] at hc; cases hc; rfl
        rw [this] at hi
        have hi : i < 10 := hi
        omega
      · exact e
    show q_val D _ _ (rf _ _) = q_val D _ _ (rf' _ _)
    rw [this]
  · rw [(h3 j hj).2 hk]
    refine congrArg some (congrArg (arrV _ _) (funext fun i => ?_))
    unfold q_sv
    have : rf (j : Int) i = rf' j i := by
      rcases hrf j i with ⟨e, e2⟩ | ⟨e, e2⟩ | e
      · have ej : j = 3 := by omega
        subst ej
        have h9 : q_k ((3 : Nat) : Int) = 3 := rfl
        omega
      · have ej : j = 0 := by omega
        subst ej
        have h9 : q_k ((0 : Nat) : Int) = 7 := rfl
        omega
      · exact e
    show q_val D _ _ (rf _ _) = q_val D _ _ (rf' _ _)
    rw [this]
end RFS
/-- what reading a text leaves -/
def rdP (h : Int) (f f' : q_F) (x : Int) (r : q_PR) : Prop := match r with
  | .inl e => x = 0 ∧ f' 1 3 = e.1 ∧ f' 1 4 = e.2 ∧ sK h f f'
  | .inr s => x = 1 ∧ cE h f' s.1 ∧ cdS f' s.2.1 ∧ f' 1 3 = 0 ∧ f' 1 4 = -1 ∧ sK h f f' ∧ pW s.1 ∧ (s.2.1.length : Int) ≤ 1600
section STM11
variable {D : q_D} {f f' S : q_F} {A : q_As} {g h : Int} {T : Int → Int} {N p e : Int}
theorem RF_into (g h0 h : Int) (j k : Int) : (j = 3 ∧ 3 ≤ k) ∨ (j = 0 ∧ 10 ≤ k) ∨ q_up (RF g h0) 3 2 h j k = RF g h j k := by
  by_cases e : j = 3 ∧ k = 2
  · right; right; rw [e.1, e.2, q_up_eq]; rfl
  · by_cases hj : j = 3
    · by_cases hk : 3 ≤ k
      · exact Or.inl ⟨hj, hk⟩
      · right; right
        rw [q_up_ne (by omega), hj]
        unfold RF
        have hk2 : k < 2 := by omega
        simp [hk2]
    · right; right
      rw [q_up_ne (by omega)]
      unfold RF
      repeat' split
      all_goals first | rfl | omega
theorem ok_read (hh : q_G h) {h0 : Int} (hN : f 1 1 = N) (hT : tW T N) (hB : ∀ k, 0 ≤ k → k < N → f 2 k = T k) : Ok D m_gr_read [vr D 3, vr D h] (Zg g h0) f (fun v z' f' => z' = Zg g h ∧ ∃ x, v = vi x ∧ rdP h f f' x (sText T N (st0 h f))) := by
  have hg2 := q_G51 hh
  refine Ok_of (L0 := [vr D 3, vr D h, vu]) mi_gr_read rfl rfl (Nat.le_of_ble_eq_true rfl) (fun C hR0 => ?_)
  generalize hr : sText T N (st0 h f) = r at *
  have hR : ∀ (x : Int) (f' : q_F), (x = 0 ∨ x = 1) → rdP h f f' x r → q_ret D C m_gr_read (vi x) (Zg g h) f' := by
    intro x f' hx hp
    refine hR0 (vi x) (Zg g h) f' (Nat.zero_le _) (Nat.zero_le _) ⟨.boolean, rfl, ?_⟩ ⟨rfl, x, rfl, hp⟩
    rcases hx with e | e <;> subst e <;> decide +kernel
  -- the state at the text's begin
  have start : ∀ (F1 : q_F), cE h F1 (clrS (st0 h f)) → cdS F1 [] → tpS F1 T N (sk T N 0) (-1) → F1 1 3 = 0 → F1 1 4 = -1 → sK h f F1 → V D C m_gr_read 28 [vr D 3, vr D h, vi 0] [] (Zg g h) F1 := by
    intro F1 hE1 hc1 ht1 f13 f14 hk1
    have hNN := ht1.pr.2.2.2.1
    -- behind n statements
    have loop : ∀ (m : Nat) (n : Int) (F S1 : q_F) (L : List Int) (q d : Int), n + m = 90 → 1 ≤ n → cT h F1 F S1 T N q d L → pW S1 → (L.length : Int) ≤ q → sLoop T N m S1 L q d = r → V D C m_gr_read 28 [vr D 3, vr D h, vi n] [] (Zg g h) F := by
      intro m
      induction m with
      | zero =>
        intro n F S1 L q d hm n1 hT1 hW1 hL1 hr1
        have hp1 := hT1.1.1.pr
        have hlk := lk_rg hT1.1.1.1 hp1.1
        have hr1 : (if lk T N q = -1 then (.inr (S1, L, q, d) : q_PR) else .inl (5, q)) = r := hr1
        have hT2 : cT h F1 (q_up F 1 2 q) S1 T N q d L := ⟨hT1.1.ck hh (cK.refl F).up hT1.1.1.pl, by rw [q_up_ne (Or.inr (by decide))]; exact hT1.2.1, by rw [q_up_ne (Or.inr (by decide))]; exact hT1.2.2.1, hT1.2.2.2.tr (cK.refl F).up.s⟩
        refine V_iload_2 d_gr_read_28 ?_
        refine V_bipush 90 d_gr_read_29 (by decide) ?_
        refine V_icmp_ge 100 d_gr_read_31 (by decide) (by omega) (by omega) (fun c31 => ?_) (fun c31 => by omega)
        refine V_aload_0 d_gr_read_100 ?_
        refine V_getR d_gr_read_101 fl_gr_9 is_gr r_gr_tape ?_
        refine V_cvI0 d_gr_read_104 ml_gr_39 mv_tp_skipBlanks (by decide) (Nat.le_of_ble_eq_true rfl) is_tp (ok_skipBlanks hT1.1.1) ?_
        rintro _ f2 ⟨rfl, e2⟩
        rw [e2]; clear e2 f2
        refine V_iconst (-1) d_gr_read_107 ?_
        refine V_icmp_eq 129 d_gr_read_108 (by decide) (by omega) (by omega) (fun c108 => ?_) (fun c108 => ?_)
        · skip
          refine V_iconst 1 d_gr_read_129 ?_
          refine V_goto 134 d_gr_read_130 (by decide) ?_
          refine V_ireturn d_gr_read_134 (hR _ _ (by decide) ?_)
          rw [if_pos (by omega)] at hr1
          rw [← hr1]
          exact ⟨rfl, hT2.1.2.1, hT2.1.2.2, by rw [hT2.2.1, f13], by rw [hT2.2.2.1, f14], hk1.tr hT2.2.2.2, hW1, by show (L.length : Int) ≤ 1600; omega⟩
        · skip
          refine V_aload_0 d_gr_read_111 ?_
          refine V_getR d_gr_read_112 fl_gr_9 is_gr r_gr_tape ?_
          refine V_iconst 5 d_gr_read_115 ?_
          refine V_aload_0 d_gr_read_116 ?_
          refine V_getR d_gr_read_117 fl_gr_9 is_gr r_gr_tape ?_
          refine V_getI d_gr_read_120 fl_gr_55 is_tp ?_
          rw [q_up_eq]
          refine V_cvI2 d_gr_read_123 ml_gr_58 mv_tp_fail (by decide) (Nat.le_of_ble_eq_true rfl) is_tp (ok_tfail (by decide)) ?_
          rintro x f9 ⟨hx, e9⟩
          rw [hx, e9]; clear hx e9 f9
          refine V_if_eq 133 d_gr_read_126 (by decide) (by omega) (fun c126 => ?_) (fun c126 => by omega)
          refine V_iconst 0 d_gr_read_133 ?_
          refine V_ireturn d_gr_read_134 (hR _ _ (by decide) ?_)
          rw [if_neg (by omega)] at hr1
          rw [← hr1]
          exact ⟨rfl, by rw [q_up_ne (Or.inr (by decide)), q_up_eq], q_up_eq _ _ _ _, (hk1.tr hT2.2.2.2).tr (cK.refl _).up.up.s⟩
      | succ m ih =>
        intro n F S1 L q d hm n1 hT1 hW1 hL1 hr1
        have hp1 := hT1.1.1.pr
        have hlk := lk_rg hT1.1.1.1 hp1.1
        have hr1 : (if lk T N q = -1 then (.inr (S1, L, q, d) : q_PR) else rb (sStm false S1 T N L q d) (fun s => rb (l_sign T N 59 s.2.2.1 s.2.2.2) (fun u => sLoop T N m (q_up s.1 0 13 (s.1 0 13 + 1)) s.2.1 u.1 u.2))) = r := hr1
        have hT2 : cT h F1 (q_up F 1 2 q) S1 T N q d L := ⟨hT1.1.ck hh (cK.refl F).up hT1.1.1.pl, by rw [q_up_ne (Or.inr (by decide))]; exact hT1.2.1, by rw [q_up_ne (Or.inr (by decide))]; exact hT1.2.2.1, hT1.2.2.2.tr (cK.refl F).up.s⟩
        have KF : ∀ (F3 : q_F) (e0 : Int × Int), r = .inl e0 → cG h F1 F3 T N 0 (.inl e0) → V D C m_gr_read 79 [vr D 3, vr D h, vi n] [] (Zg g h) F3 := by
          intro F3 e0 he hx
          refine V_iconst 0 d_gr_read_79 ?_
          refine V_ireturn d_gr_read_80 (hR _ _ (by decide) ?_)
          rw [he]
          exact ⟨rfl, hx.2.1, hx.2.2.1, hk1.tr hx.2.2.2⟩
        by_cases hl : lk T N q = -1
        · rw [if_pos hl] at hr1
          refine V_iload_2 d_gr_read_28 ?_
          refine V_bipush 90 d_gr_read_29 (by decide) ?_
          refine V_icmp_ge 100 d_gr_read_31 (by decide) (by omega) (by omega) (fun c31 => by omega) (fun c31 => ?_)
          refine V_iload_2 d_gr_read_34 ?_
          refine V_if_le 51 d_gr_read_35 (by decide) (by omega) (fun c35 => by omega) (fun c35 => ?_)
          refine V_aload_0 d_gr_read_38 ?_
          refine V_getR d_gr_read_39 fl_gr_9 is_gr r_gr_tape ?_
          refine V_cvI0 d_gr_read_42 ml_gr_39 mv_tp_skipBlanks (by decide) (Nat.le_of_ble_eq_true rfl) is_tp (ok_skipBlanks hT1.1.1) ?_
          rintro _ f2 ⟨rfl, e2⟩
          rw [e2]; clear e2 f2
          refine V_iconst (-1) d_gr_read_45 ?_
          refine V_icmp_ne 51 d_gr_read_46 (by decide) (by omega) (by omega) (fun c46 => by omega) (fun c46 => ?_)
          refine V_iconst 1 d_gr_read_49 ?_
          refine V_ireturn d_gr_read_50 (hR _ _ (by decide) ?_)
          rw [← hr1]
          exact ⟨rfl, hT2.1.2.1, hT2.1.2.2, by rw [hT2.2.1, f13], by rw [hT2.2.2.1, f14], hk1.tr hT2.2.2.2, hW1, by show (L.length : Int) ≤ 1600; omega⟩
        · rw [if_neg hl] at hr1
          have oks := ok_readStatement (D := D) (g := g) hh hT2.1 hW1 hL1 false (fun h => by cases h)
          have oks2 : OkI D m_gr_readStatement [vr D 3, vi 0] (Zg g h) (q_up F 1 2 q) (fun x f' => cG h (q_up F 1 2 q) f' T N x (sStm false S1 T N L q d)) := oks
          cases hs : sStm false S1 T N L q d with
          | inl e0 =>
            rw [hs] at hr1 oks2
            refine V_iload_2 d_gr_read_28 ?_
            refine V_bipush 90 d_gr_read_29 (by decide) ?_
            refine V_icmp_ge 100 d_gr_read_31 (by decide) (by omega) (by omega) (fun c31 => by omega) (fun c31 => ?_)
            refine V_iload_2 d_gr_read_34 ?_
            refine V_if_le 51 d_gr_read_35 (by decide) (by omega) (fun c35 => by omega) (fun c35 => ?_)
            refine V_aload_0 d_gr_read_38 ?_
            refine V_getR d_gr_read_39 fl_gr_9 is_gr r_gr_tape ?_
            refine V_cvI0 d_gr_read_42 ml_gr_39 mv_tp_skipBlanks (by decide) (Nat.le_of_ble_eq_true rfl) is_tp (ok_skipBlanks hT1.1.1) ?_
            rintro _ f2 ⟨rfl, e2⟩
            rw [e2]; clear e2 f2
            refine V_iconst (-1) d_gr_read_45 ?_
            refine V_icmp_ne 51 d_gr_read_46 (by decide) (by omega) (by omega) (fun c46 => ?_) (fun c46 => by omega)
            refine V_aload_0 d_gr_read_51 ?_
            refine V_iload_2 d_gr_read_52 ?_
            refine V_if_ne 60 d_gr_read_53 (by decide) (by omega) (fun c53 => ?_) (fun c53 => by omega)
            refine V_iconst 0 d_gr_read_60 ?_
            refine V_cvI1 d_gr_read_61 ml_gr_43 mv_gr_readStatement (by decide) (Nat.le_of_ble_eq_true rfl) is_gr (oks2) ?_
            rintro x F3 hx
            have hx2 := cG.tr hT2 hx
            have ex : x = 0 := hx.1
            subst ex
            refine V_if_eq 79 d_gr_read_64 (by decide) (by omega) (fun c64 => ?_) (fun c64 => by omega)
            exact KF F3 e0 hr1.symm hx2
          | inr s =>
            obtain ⟨S3, L3, q3, d3⟩ := s
            obtain ⟨hW3, hL3, hq3, hq3N⟩ := sStm_ok false hW1 (fun h => by cases h) hp1.1 hp1.2.1 (by omega) hL1 hs
            rw [hs] at hr1 oks2
            have hr2 : rb (l_sign T N 59 q3 d3) (fun u => sLoop T N m (q_up S3 0 13 (S3 0 13 + 1)) L3 u.1 u.2) = r := hr1
            cases hg9 : l_sign T N 59 q3 d3 with
            | inl e0 =>
              rw [hg9] at hr2
              refine V_iload_2 d_gr_read_28 ?_
              refine V_bipush 90 d_gr_read_29 (by decide) ?_
              refine V_icmp_ge 100 d_gr_read_31 (by decide) (by omega) (by omega) (fun c31 => by omega) (fun c31 => ?_)
              refine V_iload_2 d_gr_read_34 ?_
              refine V_if_le 51 d_gr_read_35 (by decide) (by omega) (fun c35 => by omega) (fun c35 => ?_)
              refine V_aload_0 d_gr_read_38 ?_
              refine V_getR d_gr_read_39 fl_gr_9 is_gr r_gr_tape ?_
              refine V_cvI0 d_gr_read_42 ml_gr_39 mv_tp_skipBlanks (by decide) (Nat.le_of_ble_eq_true rfl) is_tp (ok_skipBlanks hT1.1.1) ?_
              rintro _ f2 ⟨rfl, e2⟩
              rw [e2]; clear e2 f2
              refine V_iconst (-1) d_gr_read_45 ?_
              refine V_icmp_ne 51 d_gr_read_46 (by decide) (by omega) (by omega) (fun c46 => ?_) (fun c46 => by omega)
              refine V_aload_0 d_gr_read_51 ?_
              refine V_iload_2 d_gr_read_52 ?_
              refine V_if_ne 60 d_gr_read_53 (by decide) (by omega) (fun c53 => ?_) (fun c53 => by omega)
              refine V_iconst 0 d_gr_read_60 ?_
              refine V_cvI1 d_gr_read_61 ml_gr_43 mv_gr_readStatement (by decide) (Nat.le_of_ble_eq_true rfl) is_gr (oks2) ?_
              rintro x F3 hx
              have hx2 := cG.tr hT2 hx
              obtain ⟨ex, hT3⟩ := hx2
              subst ex
              refine V_if_eq 79 d_gr_read_64 (by decide) (by omega) (fun c64 => by omega) (fun c64 => ?_)
              refine V_aload_0 d_gr_read_67 ?_
              refine V_getR d_gr_read_68 fl_gr_9 is_gr r_gr_tape ?_
              refine V_bipush 59 d_gr_read_71 (by decide) ?_
              refine V_cvI1 d_gr_read_73 ml_gr_47 mv_tp_takeSign (by decide) (Nat.le_of_ble_eq_true rfl) is_tp (ok_takeSign hT3.1.1 (by decide)) ?_
              rintro x4 F4 hx4
              obtain ⟨rfl, hz⟩ := cO.ig hT3 hx4 hg9
              refine V_if_ne 81 d_gr_read_76 (by decide) (by omega) (fun c76 => by omega) (fun c76 => ?_)
              exact KF F4 e0 hr2.symm hz
            | inr u =>
              have hu := l_sign_ge (by decide) hg9
              rw [hg9] at hr2
              refine V_iload_2 d_gr_read_28 ?_
              refine V_bipush 90 d_gr_read_29 (by decide) ?_
              refine V_icmp_ge 100 d_gr_read_31 (by decide) (by omega) (by omega) (fun c31 => by omega) (fun c31 => ?_)
              refine V_iload_2 d_gr_read_34 ?_
              refine V_if_le 51 d_gr_read_35 (by decide) (by omega) (fun c35 => by omega) (fun c35 => ?_)
              refine V_aload_0 d_gr_read_38 ?_
              refine V_getR d_gr_read_39 fl_gr_9 is_gr r_gr_tape ?_
              refine V_cvI0 d_gr_read_42 ml_gr_39 mv_tp_skipBlanks (by decide) (Nat.le_of_ble_eq_true rfl) is_tp (ok_skipBlanks hT1.1.1) ?_
              rintro _ f2 ⟨rfl, e2⟩
              rw [e2]; clear e2 f2
              refine V_iconst (-1) d_gr_read_45 ?_
              refine V_icmp_ne 51 d_gr_read_46 (by decide) (by omega) (by omega) (fun c46 => ?_) (fun c46 => by omega)
              refine V_aload_0 d_gr_read_51 ?_
              refine V_iload_2 d_gr_read_52 ?_
              refine V_if_ne 60 d_gr_read_53 (by decide) (by omega) (fun c53 => ?_) (fun c53 => by omega)
              refine V_iconst 0 d_gr_read_60 ?_
              refine V_cvI1 d_gr_read_61 ml_gr_43 mv_gr_readStatement (by decide) (Nat.le_of_ble_eq_true rfl) is_gr (oks2) ?_
              rintro x F3 hx
              have hx2 := cG.tr hT2 hx
              obtain ⟨ex, hT3⟩ := hx2
              subst ex
              refine V_if_eq 79 d_gr_read_64 (by decide) (by omega) (fun c64 => by omega) (fun c64 => ?_)
              refine V_aload_0 d_gr_read_67 ?_
              refine V_getR d_gr_read_68 fl_gr_9 is_gr r_gr_tape ?_
              refine V_bipush 59 d_gr_read_71 (by decide) ?_
              refine V_cvI1 d_gr_read_73 ml_gr_47 mv_tp_takeSign (by decide) (Nat.le_of_ble_eq_true rfl) is_tp (ok_takeSign hT3.1.1 (by decide)) ?_
              rintro x4 F4 hx4
              obtain ⟨rfl, hT4⟩ := cO.in hh hT3 hx4 hg9
              have e13 : F4 h 13 = S3 0 13 := by have := hT4.1.2.1.1 0 13 (by decide) (by decide); rw [Int.add_zero] at this; exact this
              have hT5 := hT4.up hh (j := 0) (by decide) (by decide) 13 (S3 0 13 + 1)
              rw [Int.add_zero] at hT5
              refine V_if_ne 81 d_gr_read_76 (by decide) (by omega) (fun c76 => ?_) (fun c76 => by omega)
              refine V_aload_0 d_gr_read_81 ?_
              refine V_getR d_gr_read_82 fl_gr_24 is_gr (r_gr_into hh) ?_
              refine V_dup d_gr_read_85 rfl ?_
              refine V_getI d_gr_read_86 fl_gr_51 (is_gd hh) ?_
              rw [e13]
              refine V_iconst 1 d_gr_read_89 ?_
              refine V_iadd d_gr_read_90 ?_
              refine V_putI d_gr_read_91 fl_gr_51 (is_gd hh) ?_
              refine V_iinc_2 d_gr_read_94 rfl ?_
              refine V_goto 28 d_gr_read_97 (by decide) ?_
              exact ih _ _ _ L3 _ _ (by omega) (by omega) hT5 (hW3.up2 (Or.inl rfl)) (by omega) hr2
    have hp1 := ht1.pr
    have hT1 : cT h F1 F1 (clrS (st0 h f)) T N (sk T N 0) (-1) [] := cT.refl ⟨ht1, hE1, hc1⟩
    have hW1 := pW_clr (st0 h f)
    have h10 : clrS (st0 h f) 1 0 = 0 := by unfold clrS; rw [if_neg (by decide), if_pos (by decide)]
    have KF : ∀ (F3 : q_F) (e0 : Int × Int), r = .inl e0 → cG h F1 F3 T N 0 (.inl e0) → V D C m_gr_read 79 [vr D 3, vr D h, vi 0] [] (Zg g h) F3 := by
      intro F3 e0 he hx
      refine V_iconst 0 d_gr_read_79 ?_
      refine V_ireturn d_gr_read_80 (hR _ _ (by decide) ?_)
      rw [he]
      exact ⟨rfl, hx.2.1, hx.2.2.1, hk1.tr hx.2.2.2⟩
    have oks2 : OkI D m_gr_readStatement [vr D 3, vi 1] (Zg g h) F1 (fun x f' => cG h F1 f' T N x (sStm true (clrS (st0 h f)) T N [] (sk T N 0) (-1))) := ok_readStatement (D := D) (g := g) hh hT1.1 hW1 (by show (0 : Int) ≤ _; omega) true (fun _ => h10)
    unfold sText at hr
    cases hs : sStm true (clrS (st0 h f)) T N [] (sk T N 0) (-1) with
    | inl e0 =>
      rw [hs] at hr oks2
      refine V_iload_2 d_gr_read_28 ?_
      refine V_bipush 90 d_gr_read_29 (by decide) ?_
      refine V_icmp_ge 100 d_gr_read_31 (by decide) (by omega) (by omega) (fun c31 => by omega) (fun c31 => ?_)
      refine V_iload_2 d_gr_read_34 ?_
      refine V_if_le 51 d_gr_read_35 (by decide) (by omega) (fun c35 => ?_) (fun c35 => by omega)
      refine V_aload_0 d_gr_read_51 ?_
      refine V_iload_2 d_gr_read_52 ?_
      refine V_if_ne 60 d_gr_read_53 (by decide) (by omega) (fun c53 => by omega) (fun c53 => ?_)
      refine V_iconst 1 d_gr_read_56 ?_
      refine V_goto 61 d_gr_read_57 (by decide) ?_
      refine V_cvI1 d_gr_read_61 ml_gr_43 mv_gr_readStatement (by decide) (Nat.le_of_ble_eq_true rfl) is_gr (oks2) ?_
      rintro x F3 hx
      have ex : x = 0 := hx.1
      subst ex
      refine V_if_eq 79 d_gr_read_64 (by decide) (by omega) (fun c64 => ?_) (fun c64 => by omega)
      exact KF F3 e0 hr.symm hx
    | inr s =>
      obtain ⟨S3, L3, q3, d3⟩ := s
      obtain ⟨hW3, hL3, hq3, hq3N⟩ := sStm_ok true hW1 (fun _ => h10) hp1.1 hp1.2.1 (by omega) (by show (0 : Int) ≤ _; omega) hs
      rw [hs] at hr oks2
      have hr2 : rb (l_sign T N 59 q3 d3) (fun u => sLoop T N 89 (q_up S3 0 13 (S3 0 13 + 1)) L3 u.1 u.2) = r := hr
      cases hg9 : l_sign T N 59 q3 d3 with
      | inl e0 =>
        rw [hg9] at hr2
        refine V_iload_2 d_gr_read_28 ?_
        refine V_bipush 90 d_gr_read_29 (by decide) ?_
        refine V_icmp_ge 100 d_gr_read_31 (by decide) (by omega) (by omega) (fun c31 => by omega) (fun c31 => ?_)
        refine V_iload_2 d_gr_read_34 ?_
        refine V_if_le 51 d_gr_read_35 (by decide) (by omega) (fun c35 => ?_) (fun c35 => by omega)
        refine V_aload_0 d_gr_read_51 ?_
        refine V_iload_2 d_gr_read_52 ?_
        refine V_if_ne 60 d_gr_read_53 (by decide) (by omega) (fun c53 => by omega) (fun c53 => ?_)
        refine V_iconst 1 d_gr_read_56 ?_
        refine V_goto 61 d_gr_read_57 (by decide) ?_
        refine V_cvI1 d_gr_read_61 ml_gr_43 mv_gr_readStatement (by decide) (Nat.le_of_ble_eq_true rfl) is_gr (oks2) ?_
        rintro x F3 hx
        obtain ⟨ex, hT3⟩ := hx
        have ex : x = 1 := ex
        subst ex
        refine V_if_eq 79 d_gr_read_64 (by decide) (by omega) (fun c64 => by omega) (fun c64 => ?_)
        refine V_aload_0 d_gr_read_67 ?_
        refine V_getR d_gr_read_68 fl_gr_9 is_gr r_gr_tape ?_
        refine V_bipush 59 d_gr_read_71 (by decide) ?_
        refine V_cvI1 d_gr_read_73 ml_gr_47 mv_tp_takeSign (by decide) (Nat.le_of_ble_eq_true rfl) is_tp (ok_takeSign hT3.1.1 (by decide)) ?_
        rintro x4 F4 hx4
        obtain ⟨rfl, hz⟩ := cO.ig hT3 hx4 hg9
        refine V_if_ne 81 d_gr_read_76 (by decide) (by omega) (fun c76 => by omega) (fun c76 => ?_)
        exact KF F4 e0 hr2.symm hz
      | inr u =>
        have hu := l_sign_ge (by decide) hg9
        rw [hg9] at hr2
        refine V_iload_2 d_gr_read_28 ?_
        refine V_bipush 90 d_gr_read_29 (by decide) ?_
        refine V_icmp_ge 100 d_gr_read_31 (by decide) (by omega) (by omega) (fun c31 => by omega) (fun c31 => ?_)
        refine V_iload_2 d_gr_read_34 ?_
        refine V_if_le 51 d_gr_read_35 (by decide) (by omega) (fun c35 => ?_) (fun c35 => by omega)
        refine V_aload_0 d_gr_read_51 ?_
        refine V_iload_2 d_gr_read_52 ?_
        refine V_if_ne 60 d_gr_read_53 (by decide) (by omega) (fun c53 => by omega) (fun c53 => ?_)
        refine V_iconst 1 d_gr_read_56 ?_
        refine V_goto 61 d_gr_read_57 (by decide) ?_
        refine V_cvI1 d_gr_read_61 ml_gr_43 mv_gr_readStatement (by decide) (Nat.le_of_ble_eq_true rfl) is_gr (oks2) ?_
        rintro x F3 hx
        obtain ⟨ex, hT3⟩ := hx
        have ex : x = 1 := ex
        subst ex
        refine V_if_eq 79 d_gr_read_64 (by decide) (by omega) (fun c64 => by omega) (fun c64 => ?_)
        refine V_aload_0 d_gr_read_67 ?_
        refine V_getR d_gr_read_68 fl_gr_9 is_gr r_gr_tape ?_
        refine V_bipush 59 d_gr_read_71 (by decide) ?_
        refine V_cvI1 d_gr_read_73 ml_gr_47 mv_tp_takeSign (by decide) (Nat.le_of_ble_eq_true rfl) is_tp (ok_takeSign hT3.1.1 (by decide)) ?_
        rintro x4 F4 hx4
        obtain ⟨rfl, hT4⟩ := cO.in hh hT3 hx4 hg9
        have e13 : F4 h 13 = S3 0 13 := by have := hT4.1.2.1.1 0 13 (by decide) (by decide); rw [Int.add_zero] at this; exact this
        have hT5 := hT4.up hh (j := 0) (by decide) (by decide) 13 (S3 0 13 + 1)
        rw [Int.add_zero] at hT5
        refine V_if_ne 81 d_gr_read_76 (by decide) (by omega) (fun c76 => ?_) (fun c76 => by omega)
        refine V_aload_0 d_gr_read_81 ?_
        refine V_getR d_gr_read_82 fl_gr_24 is_gr (r_gr_into hh) ?_
        refine V_dup d_gr_read_85 rfl ?_
        refine V_getI d_gr_read_86 fl_gr_51 (is_gd hh) ?_
        rw [e13]
        refine V_iconst 1 d_gr_read_89 ?_
        refine V_iadd d_gr_read_90 ?_
        refine V_putI d_gr_read_91 fl_gr_51 (is_gd hh) ?_
        refine V_iinc_2 d_gr_read_94 rfl ?_
        refine V_goto 28 d_gr_read_97 (by decide) ?_
        exact loop 89 1 _ _ L3 _ _ (by decide) (by decide) hT5 (hW3.up2 (Or.inl rfl)) (by omega) hr2
  refine V_aload_0 d_gr_read_0 ?_
  refine V_aload_1 d_gr_read_1 ?_
  refine V_putR d_gr_read_2 fl_gr_24 is_gr rfl rfl rfl (by omega) ?_
  refine V_rf (rf' := RF g h) (RF_into g h0 h) ?_
  refine V_aload_0 d_gr_read_5 ?_
  refine V_getR d_gr_read_6 fl_gr_24 is_gr (r_gr_into hh) ?_
  refine V_cvV0 d_gr_read_9 ml_gr_28 mv_gd_clear (by decide) (Nat.le_of_ble_eq_true rfl) (is_gd hh) (ok_gdclear hh (cE_st0 hh)) ?_
  rintro F2 ⟨e2, k2⟩
  refine V_aload_0 d_gr_read_12 ?_
  refine V_getR d_gr_read_13 fl_gr_20 is_gr r_gr_rules ?_
  refine V_cvV0 d_gr_read_16 ml_gr_33 mv_ru_clear (by decide) (Nat.le_of_ble_eq_true rfl) is_ru (ok_ruclear) ?_
  rintro f2 e2
  rw [e2]; clear e2 f2
  refine V_aload_0 d_gr_read_19 ?_
  refine V_getR d_gr_read_20 fl_gr_9 is_gr r_gr_tape ?_
  refine V_cvV0 d_gr_read_23 ml_gr_34 mv_tp_rewind (by decide) (Nat.le_of_ble_eq_true rfl) is_tp (ok_rewind) ?_
  rintro f2 e2
  rw [e2]; clear e2 f2
  refine V_iconst 0 d_gr_read_26 ?_
  refine V_istore_2 d_gr_read_27 rfl ?_
  refine start _ ?_ ?_ ?_ ?_ ?_ ?_
  · exact ⟨fun j k a b => by rw [q_up_at (by omega), q_up_at (by omega), q_up_at (by omega), q_up_at (by omega), q_up_at (by omega)]; exact e2.1 j k a b, fun k => by rw [q_up_at (by decide), q_up_at (by decide), q_up_at (by decide), q_up_at (by decide), q_up_at (by decide)]; exact e2.2.1 k, fun k => by rw [q_up_at (by decide), q_up_at (by decide), q_up_at (by decide), q_up_at (by decide), q_up_at (by decide)]; exact e2.2.2 k⟩
  · exact ⟨by rw [q_up_at (by decide), q_up_at (by decide), q_up_at (by decide), q_up_at (by decide), q_up_eq]; rfl, fun k hk => by cases hk⟩
  · refine ⟨hT, ?_, fun k k0 k1 => ?_, ?_, ?_, ?_, ?_⟩
    · rw [q_up_ne (Or.inr (by decide)), q_up_ne (Or.inr (by decide)), q_up_ne (Or.inr (by decide)), q_up_ne (Or.inr (by decide)), q_up_at (by decide), k2 _ _ (by omega)]; exact hN
    · rw [q_up_at (by decide), q_up_at (by decide), q_up_at (by decide), q_up_at (by decide), q_up_at (by decide), k2 _ _ (by omega)]; exact hB k k0 k1
    · rw [q_up_ne (Or.inr (by decide)), q_up_ne (Or.inr (by decide)), q_up_ne (Or.inr (by decide)), q_up_eq]; exact ⟨Int.le_refl _, hT.1.1⟩
    · rw [q_up_ne (Or.inr (by decide)), q_up_ne (Or.inr (by decide)), q_up_ne (Or.inr (by decide)), q_up_eq]
    · rw [q_up_ne (Or.inr (by decide)), q_up_ne (Or.inr (by decide)), q_up_eq]
    · have := hT.1; omega
  · rw [q_up_ne (Or.inr (by decide)), q_up_eq]
  · rw [q_up_eq]
  · intro j k a b c
    rw [q_up_at a, q_up_at a, q_up_at a, q_up_at a, q_up_at (by omega), k2 j k b]
end STM11
