/-! the class: best, whose, could, clash, crowd, shade, days, average -/
section HS2
variable {D : q_D} {f : q_F} {A : q_As} {g h : Int}
theorem ok_isBetter (hS : Cst g f A) (hF : Wf A) {a b s w : Int} (ha : 0 ≤ a ∧ a < A 0 2 0) (hb : 0 ≤ b ∧ b < A 0 2 0) (hs : 0 ≤ s ∧ s < A 0 4 0) (hw : w = 0 ∨ w = 1) : OkI D m_hs_isBetter [vr D 0, vi a, vi b, vi s, vi w] (Zg g h) f (fun x f' => ((x = 1 ∧ (if w = 0 then A 9 a s < A 9 b s else A 8 b s < A 8 a s)) ∨ (x = 0 ∧ ¬ (if w = 0 then A 9 a s < A 9 b s else A 8 b s < A 8 a s))) ∧ f' = f) := by
  have hn := hF.nn
  obtain ⟨hg, hG, hH, hT⟩ := hS
  obtain ⟨⟨e1, e2⟩, b1, b2⟩ := hG.pp hF.1 ha hs
  obtain ⟨⟨e3, e4⟩, b3, b4⟩ := hG.pp hF.1 hb hs
  refine OkB_of (L0 := [vr D 0, vi a, vi b, vi s, vi w]) mi_hs_isBetter rfl rfl (Nat.le_of_ble_eq_true rfl) (fun C hR => ?_)
  refine V_iload_4 d_hs_isBetter_0 ?_
  refine V_if_eq 38 d_hs_isBetter_2 (by decide) (by omega) (fun c2 => ?_) (fun c2 => ?_)
  · skip
    rw [if_pos c2] at hR
    refine V_aload_0 d_hs_isBetter_38 ?_
    refine V_getR d_hs_isBetter_39 fl_hs_57 is_hs (r_hs_now hg) ?_
    refine V_getR d_hs_isBetter_42 fl_hs_155 (is_gd hg) (r_gd_prices hg) ?_
    refine V_iload_1 d_hs_isBetter_45 ?_
    refine V_aald d_hs_isBetter_46 (is_gd_prices hg) (by omega) (by omega) (r_gd_pricesrow hg (by omega)) ?_
    refine V_iload_3 d_hs_isBetter_47 ?_
    refine V_iald d_hs_isBetter_48 (is_gd_prices_row hg (by omega)) (by omega) (by omega) ?_
    refine V_aload_0 d_hs_isBetter_49 ?_
    refine V_getR d_hs_isBetter_50 fl_hs_57 is_hs (r_hs_now hg) ?_
    refine V_getR d_hs_isBetter_53 fl_hs_155 (is_gd hg) (r_gd_prices hg) ?_
    refine V_iload_2 d_hs_isBetter_56 ?_
    refine V_aald d_hs_isBetter_57 (is_gd_prices hg) (by omega) (by omega) (r_gd_pricesrow hg (by omega)) ?_
    refine V_iload_3 d_hs_isBetter_58 ?_
    refine V_iald d_hs_isBetter_59 (is_gd_prices_row hg (by omega)) (by omega) (by omega) ?_
    refine V_icmp_ge 67 d_hs_isBetter_60 (by decide) (by omega) (by omega) (fun c60 => ?_) (fun c60 => ?_)
    · skip
      refine V_iconst 0 d_hs_isBetter_67 ?_
      refine V_ireturn d_hs_isBetter_68 (hR _ _ (by decide) ?_)
      exact ⟨by omega, rfl⟩
    · skip
      refine V_iconst 1 d_hs_isBetter_63 ?_
      refine V_goto 68 d_hs_isBetter_64 (by decide) ?_
      refine V_ireturn d_hs_isBetter_68 (hR _ _ (by decide) ?_)
      exact ⟨by omega, rfl⟩
  · skip
    rw [if_neg c2] at hR
    refine V_aload_0 d_hs_isBetter_5 ?_
    refine V_getR d_hs_isBetter_6 fl_hs_57 is_hs (r_hs_now hg) ?_
    refine V_getR d_hs_isBetter_9 fl_hs_152 (is_gd hg) (r_gd_passes hg) ?_
    refine V_iload_1 d_hs_isBetter_12 ?_
    refine V_aald d_hs_isBetter_13 (is_gd_passes hg) (by omega) (by omega) (r_gd_passesrow hg (by omega)) ?_
    refine V_iload_3 d_hs_isBetter_14 ?_
    refine V_iald d_hs_isBetter_15 (is_gd_passes_row hg (by omega)) (by omega) (by omega) ?_
    refine V_aload_0 d_hs_isBetter_16 ?_
    refine V_getR d_hs_isBetter_17 fl_hs_57 is_hs (r_hs_now hg) ?_
    refine V_getR d_hs_isBetter_20 fl_hs_152 (is_gd hg) (r_gd_passes hg) ?_
    refine V_iload_2 d_hs_isBetter_23 ?_
    refine V_aald d_hs_isBetter_24 (is_gd_passes hg) (by omega) (by omega) (r_gd_passesrow hg (by omega)) ?_
    refine V_iload_3 d_hs_isBetter_25 ?_
    refine V_iald d_hs_isBetter_26 (is_gd_passes_row hg (by omega)) (by omega) (by omega) ?_
    refine V_icmp_le 34 d_hs_isBetter_27 (by decide) (by omega) (by omega) (fun c27 => ?_) (fun c27 => ?_)
    · skip
      refine V_iconst 0 d_hs_isBetter_34 ?_
      refine V_goto 68 d_hs_isBetter_35 (by decide) ?_
      refine V_ireturn d_hs_isBetter_68 (hR _ _ (by decide) ?_)
      exact ⟨by omega, rfl⟩
    · skip
      refine V_iconst 1 d_hs_isBetter_30 ?_
      refine V_goto 68 d_hs_isBetter_31 (by decide) ?_
      refine V_ireturn d_hs_isBetter_68 (hR _ _ (by decide) ?_)
      exact ⟨by omega, rfl⟩
theorem hs_best (hS : Cst g f A) (hF : Wf A) {s w l : Int} (hs : -2147483648 ≤ s ∧ s < 2147483648) (hw : w = 0 ∨ w = 1) (hl : -2147483648 ≤ l ∧ l < 2147483648) : OkI D m_hs_best [vr D 0, vi s, vi w, vi l] (Zg g h) f (fun x f' => x = S_best A s w l ∧ f' = f) := by
  have hn := hF.nn
  have hS' := hS
  obtain ⟨hg, hG, hH, hT⟩ := hS'
  have e2 := hG.1 2 (by decide) (by decide)
  refine OkI_of (L0 := [vr D 0, vi s, vi w, vi l, vu, vu]) mi_hs_best rfl rfl (Nat.le_of_ble_eq_true rfl) (fun C hR => ?_)
  have loop : ∀ (m : Nat) (i b : Int), 0 ≤ s ∧ s < A 0 4 0 → i + m = A 0 2 0 → 0 ≤ i → (b = -1 ∨ (0 ≤ b ∧ b < A 0 2 0)) → bestN A s w l m i b = S_best A s w l → V D C m_hs_best 16 [vr D 0, vi s, vi w, vi l, vi b, vi i] [] (Zg g h) f := by
    intro m
    induction m with
    | zero =>
      intro i b hs hm h0 hb hr
      refine V_iload_5 d_hs_best_16 ?_
      refine V_aload_0 d_hs_best_18 ?_
      refine V_getR d_hs_best_19 fl_hs_57 is_hs (r_hs_now hg) ?_
      refine V_getR d_hs_best_22 fl_hs_90 (is_gd hg) (r_gd_counts hg) ?_
      refine V_iconst 2 d_hs_best_25 ?_
      refine V_iald d_hs_best_26 (is_gd_counts hg) (by omega) (by omega) ?_
      refine V_icmp_ge 82 d_hs_best_27 (by decide) (by omega) (by omega) (fun c27 => ?_) (fun c27 => by omega)
      refine V_iload_4 d_hs_best_82 ?_
      refine V_ireturn d_hs_best_84 (hR _ _ ?_)
      exact ⟨hr, rfl⟩
    | succ m ih =>
      intro i b hs hm h0 hb hr
      unfold bestN at hr
      obtain ⟨⟨e8, e9⟩, b8, b9⟩ := hG.pp hF.1 (k := i) (by omega) hs
      refine V_iload_5 d_hs_best_16 ?_
      refine V_aload_0 d_hs_best_18 ?_
      refine V_getR d_hs_best_19 fl_hs_57 is_hs (r_hs_now hg) ?_
      refine V_getR d_hs_best_22 fl_hs_90 (is_gd hg) (r_gd_counts hg) ?_
      refine V_iconst 2 d_hs_best_25 ?_
      refine V_iald d_hs_best_26 (is_gd_counts hg) (by omega) (by omega) ?_
      refine V_icmp_ge 82 d_hs_best_27 (by decide) (by omega) (by omega) (fun c27 => by omega) (fun c27 => ?_)
      refine V_iload_2 d_hs_best_30 ?_
      refine V_if_ne 53 d_hs_best_31 (by decide) (by omega) (fun c31 => ?_) (fun c31 => ?_)
      · skip
        refine V_iload_4 d_hs_best_53 ?_
        refine V_iconst (-1) d_hs_best_55 ?_
        refine V_icmp_eq 72 d_hs_best_56 (by decide) (by omega) (by omega) (fun c56 => ?_) (fun c56 => ?_)
        · skip
          refine V_iload_5 d_hs_best_72 ?_
          refine V_istore_4 d_hs_best_74 rfl ?_
          refine V_iinc_5 d_hs_best_76 rfl ?_
          refine V_goto 16 d_hs_best_79 (by decide) ?_
          refine ih _ _ hs (by omega) (by omega) (by omega) ?_
          rw [if_neg (by omega), if_pos (by omega)] at hr; exact hr
        · skip
          refine V_aload_0 d_hs_best_59 ?_
          refine V_iload_5 d_hs_best_60 ?_
          refine V_iload_4 d_hs_best_62 ?_
          refine V_iload_1 d_hs_best_64 ?_
          refine V_iload_2 d_hs_best_65 ?_
          refine V_cvI4 d_hs_best_66 ml_hs_158 mv_hs_isBetter (by decide) (Nat.le_of_ble_eq_true rfl) is_hs (ok_isBetter hS hF (by omega) (by omega) hs hw) ?_
          rintro x66 f2 ⟨hx66, e2⟩
          rw [e2]; clear e2 f2
          refine V_if_eq 76 d_hs_best_69 (by decide) (by omega) (fun c69 => ?_) (fun c69 => ?_)
          · skip
            refine V_iinc_5 d_hs_best_76 rfl ?_
            refine V_goto 16 d_hs_best_79 (by decide) ?_
            refine ih _ _ hs (by omega) (by omega) (by omega) ?_
            rw [if_neg (by omega), if_neg (q_no c56 (q_b0 hx66 c69))] at hr; exact hr
          · skip
            refine V_iload_5 d_hs_best_72 ?_
            refine V_istore_4 d_hs_best_74 rfl ?_
            refine V_iinc_5 d_hs_best_76 rfl ?_
            refine V_goto 16 d_hs_best_79 (by decide) ?_
            refine ih _ _ hs (by omega) (by omega) (by omega) ?_
            rw [if_neg (by omega), if_pos (Or.inr (q_b1 hx66 c69))] at hr; exact hr
      · skip
        refine V_aload_0 d_hs_best_34 ?_
        refine V_getR d_hs_best_35 fl_hs_57 is_hs (r_hs_now hg) ?_
        refine V_getR d_hs_best_38 fl_hs_152 (is_gd hg) (r_gd_passes hg) ?_
        refine V_iload_5 d_hs_best_41 ?_
        refine V_aald d_hs_best_43 (is_gd_passes hg) (by omega) (by omega) (r_gd_passesrow hg (by omega)) ?_
        refine V_iload_1 d_hs_best_44 ?_
        refine V_iald d_hs_best_45 (is_gd_passes_row hg (by omega)) (by omega) (by omega) ?_
        refine V_iload_3 d_hs_best_46 ?_
        refine V_icmp_ge 53 d_hs_best_47 (by decide) (by omega) (by omega) (fun c47 => ?_) (fun c47 => ?_)
        · skip
          refine V_iload_4 d_hs_best_53 ?_
          refine V_iconst (-1) d_hs_best_55 ?_
          refine V_icmp_eq 72 d_hs_best_56 (by decide) (by omega) (by omega) (fun c56 => ?_) (fun c56 => ?_)
          · skip
            refine V_iload_5 d_hs_best_72 ?_
            refine V_istore_4 d_hs_best_74 rfl ?_
            refine V_iinc_5 d_hs_best_76 rfl ?_
            refine V_goto 16 d_hs_best_79 (by decide) ?_
            refine ih _ _ hs (by omega) (by omega) (by omega) ?_
            rw [if_neg (by omega), if_pos (by omega)] at hr; exact hr
          · skip
            refine V_aload_0 d_hs_best_59 ?_
            refine V_iload_5 d_hs_best_60 ?_
            refine V_iload_4 d_hs_best_62 ?_
            refine V_iload_1 d_hs_best_64 ?_
            refine V_iload_2 d_hs_best_65 ?_
            refine V_cvI4 d_hs_best_66 ml_hs_158 mv_hs_isBetter (by decide) (Nat.le_of_ble_eq_true rfl) is_hs (ok_isBetter hS hF (by omega) (by omega) hs hw) ?_
            rintro x66 f2 ⟨hx66, e2⟩
            rw [e2]; clear e2 f2
            refine V_if_eq 76 d_hs_best_69 (by decide) (by omega) (fun c69 => ?_) (fun c69 => ?_)
            · skip
              refine V_iinc_5 d_hs_best_76 rfl ?_
              refine V_goto 16 d_hs_best_79 (by decide) ?_
              refine ih _ _ hs (by omega) (by omega) (by omega) ?_
              rw [if_neg (by omega), if_neg (q_no c56 (q_b0 hx66 c69))] at hr; exact hr
            · skip
              refine V_iload_5 d_hs_best_72 ?_
              refine V_istore_4 d_hs_best_74 rfl ?_
              refine V_iinc_5 d_hs_best_76 rfl ?_
              refine V_goto 16 d_hs_best_79 (by decide) ?_
              refine ih _ _ hs (by omega) (by omega) (by omega) ?_
              rw [if_neg (by omega), if_pos (Or.inr (q_b1 hx66 c69))] at hr; exact hr
        · skip
          refine V_goto 76 d_hs_best_50 (by decide) ?_
          refine V_iinc_5 d_hs_best_76 rfl ?_
          refine V_goto 16 d_hs_best_79 (by decide) ?_
          refine ih _ _ hs (by omega) (by omega) (by omega) ?_
          rw [if_pos (by omega)] at hr; exact hr
  refine V_aload_0 d_hs_best_0 ?_
  refine V_iload_1 d_hs_best_1 ?_
  refine V_cvI1 d_hs_best_2 ml_hs_136 mv_hs_isSighting (by decide) (Nat.le_of_ble_eq_true rfl) is_hs (ok_isSighting hS hF hs) ?_
  rintro x2 f2 ⟨hx2, e2⟩
  rw [e2]; clear e2 f2
  refine V_if_ne 10 d_hs_best_5 (by decide) (by omega) (fun c5 => ?_) (fun c5 => ?_)
  · skip
    refine V_iconst (-1) d_hs_best_10 ?_
    refine V_istore_4 d_hs_best_11 rfl ?_
    refine V_iconst 0 d_hs_best_13 ?_
    refine V_istore_5 d_hs_best_14 rfl ?_
    refine loop (A 0 2 0).toNat _ _ (by omega) (by omega) (by decide) (Or.inl rfl) ?_
    unfold S_best; rw [if_pos (by omega)]
  · skip
    refine V_iconst (-1) d_hs_best_8 ?_
    refine V_ireturn d_hs_best_9 (hR _ _ ?_)
    refine ⟨?_, rfl⟩
    unfold S_best; rw [if_neg (by omega)]
theorem ok_weightOf (hS : Cst g f A) (hF : Wf A) {s sh : Int} (hs : 0 ≤ s ∧ s < A 0 4 0) (hh : -1 ≤ sh ∧ sh < A 0 2 0) : OkI D m_hs_weightOf [vr D 0, vi s, vi sh] (Zg g h) f (fun x f' => x = wgt A s sh ∧ f' = f) := by
  have hn := hF.nn
  have hS' := hS
  obtain ⟨hg, hG, hH, hT⟩ := hS'
  obtain ⟨⟨e0, -⟩, b0, -⟩ := hG.sg hF.1 hs.1 hs.2
  have hset : ∀ t, 0 ≤ t → t < 31 → wset A s sh t = true → t < A 0 4 0 := by
    intro t _ _ ht
    unfold wset own isOf held at ht
    split at ht <;> simp at ht <;> omega
  have key : q_and (q_and (mB (wset A s sh)) (q_xor (q_shl 1 s) (-1))) (q_xor (f (g + 82) s) (-1)) = mB (fun t => wset A s sh t && !can A s t) := by
    rw [hG.mt hs.1 hs.2, mB_one (by omega), mB_andn, mB_andn]
    refine mB_eq (fun t h0 h1 => ?_)
    by_cases ht : wset A s sh t = true
    · have := hset t h0 h1 ht
      rw [ht]
      by_cases e : t = s
      · subst e; rw [can_refl hF.1 ⟨h0, this⟩]; simp
      · simp [e, this]
    · simp at ht; simp [ht]
  have hr := mB_rg (fun t => wset A s sh t && !can A s t)
  refine OkI_of (L0 := [vr D 0, vi s, vi sh, vu, vu, vu]) mi_hs_weightOf rfl rfl (Nat.le_of_ble_eq_true rfl) (fun C hR => ?_)
  refine V_aload_0 d_hs_weightOf_0 ?_
  refine V_getR d_hs_weightOf_1 fl_hs_57 is_hs (r_hs_now hg) ?_
  refine V_getR d_hs_weightOf_4 fl_hs_140 (is_gd hg) (r_gd_sightings hg) ?_
  refine V_iload_1 d_hs_weightOf_7 ?_
  refine V_aald d_hs_weightOf_8 (is_gd_sightings hg) (by omega) (by omega) (r_gd_sightingsrow hg (by omega)) ?_
  refine V_iconst 0 d_hs_weightOf_9 ?_
  refine V_iald d_hs_weightOf_10 (is_gd_sightings_row hg (by omega)) (by omega) (by omega) ?_
  refine V_istore_3 d_hs_weightOf_11 rfl ?_
  rw [e0]
  refine V_iload_2 d_hs_weightOf_12 ?_
  refine V_iconst (-1) d_hs_weightOf_13 ?_
  refine V_icmp_ne 25 d_hs_weightOf_14 (by decide) (by omega) (by omega) (fun c14 => ?_) (fun c14 => ?_)
  · skip
    refine V_aload_0 d_hs_weightOf_25 ?_
    refine V_iload_2 d_hs_weightOf_26 ?_
    refine V_cvI1 d_hs_weightOf_27 ml_hs_168 mv_hs_heldBy (by decide) (Nat.le_of_ble_eq_true rfl) is_hs (ok_heldBy hS hF (by omega)) ?_
    rintro _ f2 ⟨rfl, e2⟩
    rw [e2]; clear e2 f2
    refine V_istore_4 d_hs_weightOf_30 rfl ?_
    refine V_iload_4 d_hs_weightOf_32 ?_
    refine V_iconst 1 d_hs_weightOf_34 ?_
    refine V_iload_1 d_hs_weightOf_35 ?_
    refine V_ishl d_hs_weightOf_36 ?_
    refine V_iconst (-1) d_hs_weightOf_37 ?_
    refine V_ixor d_hs_weightOf_38 ?_
    refine V_iand d_hs_weightOf_39 ?_
    refine V_istore_5 d_hs_weightOf_40 rfl ?_
    refine V_iload_5 d_hs_weightOf_42 ?_
    refine V_aload_0 d_hs_weightOf_44 ?_
    refine V_getR d_hs_weightOf_45 fl_hs_57 is_hs (r_hs_now hg) ?_
    refine V_getR d_hs_weightOf_48 fl_hs_171 (is_gd hg) (r_gd_meets hg) ?_
    refine V_iload_1 d_hs_weightOf_51 ?_
    refine V_iald d_hs_weightOf_52 (is_gd_meets hg) (by omega) (by omega) ?_
    refine V_iconst (-1) d_hs_weightOf_53 ?_
    refine V_ixor d_hs_weightOf_54 ?_
    refine V_iand d_hs_weightOf_55 ?_
    rw [show mB (held A sh) = mB (wset A s sh) by unfold wset; rw [if_neg c14], key]
    refine V_if_eq 61 d_hs_weightOf_56 (by decide) (by omega) (fun c56 => ?_) (fun c56 => ?_)
    · skip
      refine V_iload_2 d_hs_weightOf_61 ?_
      refine V_iconst (-1) d_hs_weightOf_62 ?_
      refine V_icmp_ne 72 d_hs_weightOf_63 (by decide) (by omega) (by omega) (fun c63 => ?_) (fun c63 => by omega)
      refine V_aload_0 d_hs_weightOf_72 ?_
      refine V_getR d_hs_weightOf_73 fl_hs_57 is_hs (r_hs_now hg) ?_
      refine V_getR d_hs_weightOf_76 fl_hs_152 (is_gd hg) (r_gd_passes hg) ?_
      refine V_iload_2 d_hs_weightOf_79 ?_
      refine V_aald d_hs_weightOf_80 (is_gd_passes hg) (by omega) (by omega) (r_gd_passesrow hg (by omega)) ?_
      refine V_iload_1 d_hs_weightOf_81 ?_
      refine V_iald d_hs_weightOf_82 (is_gd_passes_row hg (by omega)) (by omega) (by omega) ?_
      refine V_ireturn d_hs_weightOf_83 (hR _ _ ?_)
      refine ⟨?_, rfl⟩
      unfold wgt; rw [if_pos c56]
      first | (rw [if_neg (by omega)]; exact (hG.pp hF.1 (by omega) hs).1.1) | (rw [if_pos (by omega)]; done)
    · skip
      refine V_iconst 0 d_hs_weightOf_59 ?_
      refine V_ireturn d_hs_weightOf_60 (hR _ _ ?_)
      exact ⟨by unfold wgt; rw [if_neg c56], rfl⟩
  · skip
    refine V_aload_0 d_hs_weightOf_17 ?_
    refine V_iload_3 d_hs_weightOf_18 ?_
    refine V_cvI1 d_hs_weightOf_19 ml_hs_165 mv_hs_unhiredOf (by decide) (Nat.le_of_ble_eq_true rfl) is_hs (ok_unhiredOf hS hF (by omega)) ?_
    rintro _ f2 ⟨rfl, e2⟩
    rw [e2]; clear e2 f2
    refine V_goto 30 d_hs_weightOf_22 (by decide) ?_
    refine V_istore_4 d_hs_weightOf_30 rfl ?_
    refine V_iload_4 d_hs_weightOf_32 ?_
    refine V_iconst 1 d_hs_weightOf_34 ?_
    refine V_iload_1 d_hs_weightOf_35 ?_
    refine V_ishl d_hs_weightOf_36 ?_
    refine V_iconst (-1) d_hs_weightOf_37 ?_
    refine V_ixor d_hs_weightOf_38 ?_
    refine V_iand d_hs_weightOf_39 ?_
    refine V_istore_5 d_hs_weightOf_40 rfl ?_
    refine V_iload_5 d_hs_weightOf_42 ?_
    refine V_aload_0 d_hs_weightOf_44 ?_
    refine V_getR d_hs_weightOf_45 fl_hs_57 is_hs (r_hs_now hg) ?_
    refine V_getR d_hs_weightOf_48 fl_hs_171 (is_gd hg) (r_gd_meets hg) ?_
    refine V_iload_1 d_hs_weightOf_51 ?_
    refine V_iald d_hs_weightOf_52 (is_gd_meets hg) (by omega) (by omega) ?_
    refine V_iconst (-1) d_hs_weightOf_53 ?_
    refine V_ixor d_hs_weightOf_54 ?_
    refine V_iand d_hs_weightOf_55 ?_
    rw [show mB (own A (A 7 s 0)) = mB (wset A s sh) by unfold wset; rw [if_pos c14], key]
    refine V_if_eq 61 d_hs_weightOf_56 (by decide) (by omega) (fun c56 => ?_) (fun c56 => ?_)
    · skip
      refine V_iload_2 d_hs_weightOf_61 ?_
      refine V_iconst (-1) d_hs_weightOf_62 ?_
      refine V_icmp_ne 72 d_hs_weightOf_63 (by decide) (by omega) (by omega) (fun c63 => by omega) (fun c63 => ?_)
      refine V_sipush 1000 d_hs_weightOf_66 (by decide) ?_
      refine V_goto 83 d_hs_weightOf_69 (by decide) ?_
      refine V_ireturn d_hs_weightOf_83 (hR _ _ ?_)
      refine ⟨?_, rfl⟩
      unfold wgt; rw [if_pos c56]
      first | (rw [if_neg (by omega)]; exact (hG.pp hF.1 (by omega) hs).1.1) | (rw [if_pos (by omega)]; done)
    · skip
      refine V_iconst 0 d_hs_weightOf_59 ?_
      refine V_ireturn d_hs_weightOf_60 (hR _ _ ?_)
      exact ⟨by unfold wgt; rw [if_neg c56], rfl⟩
theorem wgt_rg (hF : Wf A) {s sh : Int} (hs : 0 ≤ s ∧ s < A 0 4 0) (hh : -1 ≤ sh ∧ sh < A 0 2 0) : 0 ≤ wgt A s sh ∧ wgt A s sh ≤ 1000 := by
  unfold wgt
  split
  · split
    · omega
    · exact (hF.1.2.2.2.1 sh s (by omega) hh.2 hs.1 hs.2).1
  · omega
theorem whN_rg (hF : Wf A) {s : Int} (hs : 0 ≤ s ∧ s < A 0 4 0) : ∀ (m : Nat) (i a : Int), 0 ≤ i → i + m = A 0 2 0 → 0 ≤ a → a ≤ whN A s m i a ∧ whN A s m i a ≤ a + 1000 * m := by
  intro m
  induction m with
  | zero => intro i a _ _ _; unfold whN; omega
  | succ m ih =>
    intro i a h0 hm ha
    have := wgt_rg hF hs (sh := i) (by omega)
    have := ih (i + 1) (a + wgt A s i) (by omega) (by omega) (by omega)
    unfold whN; omega
theorem hs_whose (hS : Cst g f A) (hF : Wf A) {s sh : Int} (hs : -2147483648 ≤ s ∧ s < 2147483648) (hh : -2147483648 ≤ sh ∧ sh < 2147483648) : OkI D m_hs_whose [vr D 0, vi s, vi sh] (Zg g h) f (fun x f' => x = S_whose A s sh ∧ f' = f) := by
  have hn := hF.nn
  have hS' := hS
  obtain ⟨hg, hG, hH, hT⟩ := hS'
  have e2 := hG.1 2 (by decide) (by decide)
  refine OkI_of (L0 := [vr D 0, vi s, vi sh, vu, vu]) mi_hs_whose rfl rfl (Nat.le_of_ble_eq_true rfl) (fun C hR => ?_)
  have loop : ∀ (m : Nat) (i a : Int), 0 ≤ s ∧ s < A 0 4 0 → -1 ≤ sh ∧ sh < A 0 2 0 → i + m = A 0 2 0 → 0 ≤ i → 0 ≤ a → whN A s m i a = whAll A s → V D C m_hs_whose 33 [vr D 0, vi s, vi sh, vi a, vi i] [] (Zg g h) f := by
    intro m
    induction m with
    | zero =>
      intro i a hs hh hm h0 ha hr
      have hz : wgt A s (-1) ≤ whAll A s ∧ whAll A s ≤ wgt A s (-1) + 1000 * (A 0 2 0).toNat := whN_rg hF hs (A 0 2 0).toNat 0 (wgt A s (-1)) (by decide) (by omega) (wgt_rg hF hs (by omega)).1
      have hz1 := wgt_rg hF hs (sh := -1) (by omega)
      have hz2 := wgt_rg hF hs hh
      unfold whN at hr
      refine V_iload_4 d_hs_whose_33 ?_
      refine V_aload_0 d_hs_whose_35 ?_
      refine V_getR d_hs_whose_36 fl_hs_57 is_hs (r_hs_now hg) ?_
      refine V_getR d_hs_whose_39 fl_hs_90 (is_gd hg) (r_gd_counts hg) ?_
      refine V_iconst 2 d_hs_whose_42 ?_
      refine V_iald d_hs_whose_43 (is_gd_counts hg) (by omega) (by omega) ?_
      refine V_icmp_ge 63 d_hs_whose_44 (by decide) (by omega) (by omega) (fun c44 => ?_) (fun c44 => by omega)
      refine V_iload_3 d_hs_whose_63 ?_
      refine V_if_ne 71 d_hs_whose_64 (by decide) (by omega) (fun c64 => ?_) (fun c64 => ?_)
      · skip
        refine V_sipush 1000 d_hs_whose_71 (by decide) ?_
        refine V_aload_0 d_hs_whose_74 ?_
        refine V_iload_1 d_hs_whose_75 ?_
        refine V_iload_2 d_hs_whose_76 ?_
        refine V_cvI2 d_hs_whose_77 ml_hs_162 mv_hs_weightOf (by decide) (Nat.le_of_ble_eq_true rfl) is_hs (ok_weightOf hS hF hs hh) ?_
        rintro _ f2 ⟨rfl, e2⟩
        rw [e2]; clear e2 f2
        refine V_imul d_hs_whose_80 ?_
        refine V_iload_3 d_hs_whose_81 ?_
        refine V_idiv d_hs_whose_82 (by omega) (by omega) ?_
        refine V_ireturn d_hs_whose_83 (hR _ _ ?_)
        refine ⟨?_, rfl⟩
        unfold S_whose; rw [if_pos ⟨hs, hh⟩, if_neg (by rw [← hr]; exact c64), ← hr]
      · skip
        refine V_iconst 0 d_hs_whose_67 ?_
        refine V_goto 83 d_hs_whose_68 (by decide) ?_
        refine V_ireturn d_hs_whose_83 (hR _ _ ?_)
        refine ⟨?_, rfl⟩
        unfold S_whose; rw [if_pos ⟨hs, hh⟩, if_pos (by rw [← hr]; exact c64)]
    | succ m ih =>
      intro i a hs hh hm h0 ha hr
      unfold whN at hr
      have hz2 := wgt_rg hF hs (sh := i) (by omega)
      refine V_iload_4 d_hs_whose_33 ?_
      refine V_aload_0 d_hs_whose_35 ?_
      refine V_getR d_hs_whose_36 fl_hs_57 is_hs (r_hs_now hg) ?_
      refine V_getR d_hs_whose_39 fl_hs_90 (is_gd hg) (r_gd_counts hg) ?_
      refine V_iconst 2 d_hs_whose_42 ?_
      refine V_iald d_hs_whose_43 (is_gd_counts hg) (by omega) (by omega) ?_
      refine V_icmp_ge 63 d_hs_whose_44 (by decide) (by omega) (by omega) (fun c44 => by omega) (fun c44 => ?_)
      refine V_iload_3 d_hs_whose_47 ?_
      refine V_aload_0 d_hs_whose_48 ?_
      refine V_iload_1 d_hs_whose_49 ?_
      refine V_iload_4 d_hs_whose_50 ?_
      refine V_cvI2 d_hs_whose_52 ml_hs_162 mv_hs_weightOf (by decide) (Nat.le_of_ble_eq_true rfl) is_hs (ok_weightOf hS hF hs (by omega)) ?_
      rintro _ f2 ⟨rfl, e2⟩
      rw [e2]; clear e2 f2
      refine V_iadd d_hs_whose_55 ?_
      refine V_istore_3 d_hs_whose_56 rfl ?_
      refine V_iinc_4 d_hs_whose_57 rfl ?_
      refine V_goto 33 d_hs_whose_60 (by decide) ?_
      exact ih _ _ hs hh (by omega) (by omega) (by omega) hr
  refine V_aload_0 d_hs_whose_0 ?_
  refine V_iload_1 d_hs_whose_1 ?_
  refine V_cvI1 d_hs_whose_2 ml_hs_136 mv_hs_isSighting (by decide) (Nat.le_of_ble_eq_true rfl) is_hs (ok_isSighting hS hF hs) ?_
  rintro x2 f2 ⟨hx2, e2⟩
  rw [e2]; clear e2 f2
  refine V_if_eq 21 d_hs_whose_5 (by decide) (by omega) (fun c5 => ?_) (fun c5 => ?_)
  · skip
    refine V_iconst (-1) d_hs_whose_21 ?_
    refine V_ireturn d_hs_whose_22 (hR _ _ ?_)
    refine ⟨?_, rfl⟩
    unfold S_whose; rw [if_neg (by omega)]
  · skip
    refine V_iload_2 d_hs_whose_8 ?_
    refine V_iconst (-1) d_hs_whose_9 ?_
    refine V_icmp_eq 23 d_hs_whose_10 (by decide) (by omega) (by omega) (fun c10 => ?_) (fun c10 => ?_)
    · skip
      refine V_aload_0 d_hs_whose_23 ?_
      refine V_iload_1 d_hs_whose_24 ?_
      refine V_iconst (-1) d_hs_whose_25 ?_
      refine V_cvI2 d_hs_whose_26 ml_hs_162 mv_hs_weightOf (by decide) (Nat.le_of_ble_eq_true rfl) is_hs (ok_weightOf hS hF (by omega) (by omega)) ?_
      rintro _ f2 ⟨rfl, e2⟩
      rw [e2]; clear e2 f2
      refine V_istore_3 d_hs_whose_29 rfl ?_
      refine V_iconst 0 d_hs_whose_30 ?_
      refine V_istore_4 d_hs_whose_31 rfl ?_
      exact loop _ _ _ (by omega) (by omega) (by omega) (by decide) (wgt_rg hF (by omega) (by omega)).1 rfl
    · skip
      refine V_aload_0 d_hs_whose_13 ?_
      refine V_iload_2 d_hs_whose_14 ?_
      refine V_cvI1 d_hs_whose_15 ml_hs_149 mv_hs_isShade (by decide) (Nat.le_of_ble_eq_true rfl) is_hs (ok_isShade hS hF hh) ?_
      rintro x15 f2 ⟨hx15, e2⟩
      rw [e2]; clear e2 f2
      refine V_if_ne 23 d_hs_whose_18 (by decide) (by omega) (fun c18 => ?_) (fun c18 => ?_)
      · skip
        refine V_aload_0 d_hs_whose_23 ?_
        refine V_iload_1 d_hs_whose_24 ?_
        refine V_iconst (-1) d_hs_whose_25 ?_
        refine V_cvI2 d_hs_whose_26 ml_hs_162 mv_hs_weightOf (by decide) (Nat.le_of_ble_eq_true rfl) is_hs (ok_weightOf hS hF (by omega) (by omega)) ?_
        rintro _ f2 ⟨rfl, e2⟩
        rw [e2]; clear e2 f2
        refine V_istore_3 d_hs_whose_29 rfl ?_
        refine V_iconst 0 d_hs_whose_30 ?_
        refine V_istore_4 d_hs_whose_31 rfl ?_
        exact loop _ _ _ (by omega) (by omega) (by omega) (by decide) (wgt_rg hF (by omega) (by omega)).1 rfl
      · skip
        refine V_iconst (-1) d_hs_whose_21 ?_
        refine V_ireturn d_hs_whose_22 (hR _ _ ?_)
        refine ⟨?_, rfl⟩
        unfold S_whose; rw [if_neg (by omega)]
theorem hs_could (hS : Cst g f A) (hF : Wf A) {p t w : Int} (hp : -2147483648 ≤ p ∧ p < 2147483648) (ht : -2147483648 ≤ t ∧ t < 2147483648) (hw : w = 0 ∨ w = 1) : OkI D m_hs_could [vr D 0, vi p, vi t, vi w] (Zg g h) f (fun x f' => x = S_could A p t w ∧ f' = f) := by
  have hn := hF.nn
  have hS' := hS
  obtain ⟨hg, hG, hH, hT⟩ := hS'
  have e1 := hG.1 1 (by decide) (by decide)
  have e2 := hG.1 2 (by decide) (by decide)
  have hb : ∀ b s, bodies A w b s = true → s < A 0 4 0 := by
    intro b s hs
    unfold bodies own isOf held at hs
    split at hs <;> simp at hs <;> omega
  have key : ∀ b, q_and (mB (bodies A w b)) (q_xor (mB (fun j => decide (j < A 0 4 0) && near A p t j)) (-1)) = mB (fun s => bodies A w b s && !near A p t s) := by
    intro b
    rw [mB_andn]
    refine mB_eq (fun s h0 h1 => ?_)
    by_cases hs : bodies A w b s = true
    · simp [hb b s hs]
    · simp at hs; simp [hs]
  have hr : ∀ b, 0 ≤ mB (fun s => bodies A w b s && !near A p t s) ∧ mB (fun s => bodies A w b s && !near A p t s) < 2147483648 := fun b => mB_rg _
  refine OkI_of (L0 := [vr D 0, vi p, vi t, vi w, vu, vu, vu, vu]) mi_hs_could rfl rfl (Nat.le_of_ble_eq_true rfl) (fun C hR => ?_)
  have loop : ∀ (m : Nat) (i a : Int) (a7 : Value), (0 ≤ p ∧ p < A 0 3 0) ∧ 0 ≤ t ∧ t ≤ 99 → i + m = nB A w → 0 ≤ i → a = mB (fun b => decide (b < i) && bodyOk A p t w b) → V D C m_hs_could 30 [vr D 0, vi p, vi t, vi w, vi (q_xor (mB (fun j => decide (j < A 0 4 0) && near A p t j)) (-1)), vi a, vi i, a7] [] (Zg g h) f := by
    intro m
    induction m with
    | zero =>
      intro i a a7 hv hm h0 ha
      unfold nB at hm
      refine V_iload_6 d_hs_could_30 ?_
      refine V_aload_0 d_hs_could_32 ?_
      refine V_getR d_hs_could_33 fl_hs_57 is_hs (r_hs_now hg) ?_
      refine V_getR d_hs_could_36 fl_hs_90 (is_gd hg) (r_gd_counts hg) ?_
      refine V_iload_3 d_hs_could_39 ?_
      refine V_if_eq 47 d_hs_could_40 (by decide) (by omega) (fun c40 => ?_) (fun c40 => ?_)
      · skip
        rw [if_pos c40] at hm
        refine V_iconst 1 d_hs_could_47 ?_
        refine V_iald d_hs_could_48 (is_gd_counts hg) (by omega) (by omega) ?_
        refine V_icmp_ge 96 d_hs_could_49 (by decide) (by omega) (by omega) (fun c49 => ?_) (fun c49 => by omega)
        refine V_iload_5 d_hs_could_96 ?_
        refine V_ireturn d_hs_could_98 (hR _ _ ?_)
        refine ⟨?_, rfl⟩
        unfold S_could; rw [if_pos hv, ha]
        have : nB A w = i := by unfold nB; first | (rw [if_pos c40]; omega) | (rw [if_neg c40]; omega)
        rw [this]
      · skip
        rw [if_neg c40] at hm
        refine V_iconst 2 d_hs_could_43 ?_
        refine V_goto 48 d_hs_could_44 (by decide) ?_
        refine V_iald d_hs_could_48 (is_gd_counts hg) (by omega) (by omega) ?_
        refine V_icmp_ge 96 d_hs_could_49 (by decide) (by omega) (by omega) (fun c49 => ?_) (fun c49 => by omega)
        refine V_iload_5 d_hs_could_96 ?_
        refine V_ireturn d_hs_could_98 (hR _ _ ?_)
        refine ⟨?_, rfl⟩
        unfold S_could; rw [if_pos hv, ha]
        have : nB A w = i := by unfold nB; first | (rw [if_pos c40]; omega) | (rw [if_neg c40]; omega)
        rw [this]
    | succ m ih =>
      intro i a a7 hv hm h0 ha
      have hni : i < nB A w := by omega
      have hm' := hm
      unfold nB at hni
      have hri := hr i
      refine V_iload_6 d_hs_could_30 ?_
      refine V_aload_0 d_hs_could_32 ?_
      refine V_getR d_hs_could_33 fl_hs_57 is_hs (r_hs_now hg) ?_
      refine V_getR d_hs_could_36 fl_hs_90 (is_gd hg) (r_gd_counts hg) ?_
      refine V_iload_3 d_hs_could_39 ?_
      refine V_if_eq 47 d_hs_could_40 (by decide) (by omega) (fun c40 => ?_) (fun c40 => ?_)
      · skip
        rw [if_pos c40] at hni
        refine V_iconst 1 d_hs_could_47 ?_
        refine V_iald d_hs_could_48 (is_gd_counts hg) (by omega) (by omega) ?_
        refine V_icmp_ge 96 d_hs_could_49 (by decide) (by omega) (by omega) (fun c49 => by omega) (fun c49 => ?_)
        refine V_iload_3 d_hs_could_52 ?_
        refine V_if_eq 65 d_hs_could_53 (by decide) (by omega) (fun c53 => ?_) (fun c53 => by omega)
        refine V_aload_0 d_hs_could_65 ?_
        refine V_iload_6 d_hs_could_66 ?_
        refine V_cvI1 d_hs_could_68 ml_hs_165 mv_hs_unhiredOf (by decide) (Nat.le_of_ble_eq_true rfl) is_hs (ok_unhiredOf hS hF (by omega)) ?_
        rintro _ f2 ⟨rfl, e2⟩
        rw [e2]; clear e2 f2
        refine V_istore_7 d_hs_could_71 rfl ?_
        refine V_iload_7 d_hs_could_73 ?_
        refine V_iload_4 d_hs_could_75 ?_
        refine V_iand d_hs_could_77 ?_
        rw [show mB (own A i) = mB (bodies A w i) by unfold bodies; rw [if_pos c40], key]
        refine V_if_ne 90 d_hs_could_78 (by decide) (by omega) (fun c78 => ?_) (fun c78 => ?_)
        · skip
          refine V_iinc_6 d_hs_could_90 rfl ?_
          refine V_goto 30 d_hs_could_93 (by decide) ?_
          refine ih _ _ _ hv (by omega) (by omega) ?_
          rw [mB_step _ (by omega), ha]
          have : bodyOk A p t w i = false := by unfold bodyOk; exact decide_eq_false c78
          rw [this]; rfl
        · skip
          refine V_iload_5 d_hs_could_81 ?_
          refine V_iconst 1 d_hs_could_83 ?_
          refine V_iload_6 d_hs_could_84 ?_
          refine V_ishl d_hs_could_86 ?_
          refine V_ior d_hs_could_87 ?_
          refine V_istore_5 d_hs_could_88 rfl ?_
          refine V_iinc_6 d_hs_could_90 rfl ?_
          refine V_goto 30 d_hs_could_93 (by decide) ?_
          refine ih _ _ _ hv (by omega) (by omega) ?_
          rw [mB_step _ (by omega), ha]
          have : bodyOk A p t w i = true := by unfold bodyOk; exact decide_eq_true c78
          rw [this]; rfl
      · skip
        rw [if_neg c40] at hni
        refine V_iconst 2 d_hs_could_43 ?_
        refine V_goto 48 d_hs_could_44 (by decide) ?_
        refine V_iald d_hs_could_48 (is_gd_counts hg) (by omega) (by omega) ?_
        refine V_icmp_ge 96 d_hs_could_49 (by decide) (by omega) (by omega) (fun c49 => by omega) (fun c49 => ?_)
        refine V_iload_3 d_hs_could_52 ?_
        refine V_if_eq 65 d_hs_could_53 (by decide) (by omega) (fun c53 => by omega) (fun c53 => ?_)
        refine V_aload_0 d_hs_could_56 ?_
        refine V_iload_6 d_hs_could_57 ?_
        refine V_cvI1 d_hs_could_59 ml_hs_168 mv_hs_heldBy (by decide) (Nat.le_of_ble_eq_true rfl) is_hs (ok_heldBy hS hF (by omega)) ?_
        rintro _ f2 ⟨rfl, e2⟩
        rw [e2]; clear e2 f2
        refine V_goto 71 d_hs_could_62 (by decide) ?_
        refine V_istore_7 d_hs_could_71 rfl ?_
        refine V_iload_7 d_hs_could_73 ?_
        refine V_iload_4 d_hs_could_75 ?_
        refine V_iand d_hs_could_77 ?_
        rw [show mB (held A i) = mB (bodies A w i) by unfold bodies; rw [if_neg c40], key]
        refine V_if_ne 90 d_hs_could_78 (by decide) (by omega) (fun c78 => ?_) (fun c78 => ?_)
        · skip
          refine V_iinc_6 d_hs_could_90 rfl ?_
          refine V_goto 30 d_hs_could_93 (by decide) ?_
          refine ih _ _ _ hv (by omega) (by omega) ?_
          rw [mB_step _ (by omega), ha]
          have : bodyOk A p t w i = false := by unfold bodyOk; exact decide_eq_false c78
          rw [this]; rfl
        · skip
          refine V_iload_5 d_hs_could_81 ?_
          refine V_iconst 1 d_hs_could_83 ?_
          refine V_iload_6 d_hs_could_84 ?_
          refine V_ishl d_hs_could_86 ?_
          refine V_ior d_hs_could_87 ?_
          refine V_istore_5 d_hs_could_88 rfl ?_
          refine V_iinc_6 d_hs_could_90 rfl ?_
          refine V_goto 30 d_hs_could_93 (by decide) ?_
          refine ih _ _ _ hv (by omega) (by omega) ?_
          rw [mB_step _ (by omega), ha]
          have : bodyOk A p t w i = true := by unfold bodyOk; exact decide_eq_true c78
          rw [this]; rfl
  refine V_aload_0 d_hs_could_0 ?_
  refine V_iload_1 d_hs_could_1 ?_
  refine V_iload_2 d_hs_could_2 ?_
  refine V_cvI2 d_hs_could_3 ml_hs_187 mv_hs_isPlaceAndHour (by decide) (Nat.le_of_ble_eq_true rfl) is_hs (ok_isPlaceAndHour hS hF hp ht) ?_
  rintro x3 f2 ⟨hx3, e2⟩
  rw [e2]; clear e2 f2
  refine V_if_ne 11 d_hs_could_6 (by decide) (by omega) (fun c6 => ?_) (fun c6 => ?_)
  · skip
    refine V_aload_0 d_hs_could_11 ?_
    refine V_getR d_hs_could_12 fl_hs_57 is_hs (r_hs_now hg) ?_
    refine V_iload_1 d_hs_could_15 ?_
    refine V_iload_2 d_hs_could_16 ?_
    refine V_cvI2 d_hs_could_17 ml_hs_190 mv_gd_near (by decide) (Nat.le_of_ble_eq_true rfl) (is_gd hg) (ok_near hg hG hF.1 (by omega) (by omega)) ?_
    rintro _ f2 ⟨rfl, e2⟩
    rw [e2]; clear e2 f2
    refine V_iconst (-1) d_hs_could_20 ?_
    refine V_ixor d_hs_could_21 ?_
    refine V_istore_4 d_hs_could_22 rfl ?_
    refine V_iconst 0 d_hs_could_24 ?_
    refine V_istore_5 d_hs_could_25 rfl ?_
    refine V_iconst 0 d_hs_could_27 ?_
    refine V_istore_6 d_hs_could_28 rfl ?_
    refine loop (nB A w).toNat _ _ _ (by omega) ?_ (by decide) (mB_lt0 _).symm
    unfold nB; split <;> omega
  · skip
    refine V_iconst (-1) d_hs_could_9 ?_
    refine V_ireturn d_hs_could_10 (hR _ _ ?_)
    refine ⟨?_, rfl⟩
    unfold S_could; rw [if_neg (by omega)]
end HS2
