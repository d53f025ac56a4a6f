/-! the class: clash, crowd, shade, days, average, seed -/
section HS3
variable {D : q_D} {f : q_F} {A : q_As} {g h : Int}
theorem mB_hi {i : Int} (h : 0 ≤ i ∧ i < 24) (p : Int → Bool) : q_and (mB p) (q_shl (-2) i) = mB (fun j => decide (i < j) && p j) := by
  obtain ⟨n, rfl⟩ := Int.eq_ofNat_of_zero_le h.1
  unfold q_and q_shl
  rw [mB_of, Int32.ofInt_toInt]
  refine mB_to (x := bv p &&& ((Int32.ofInt (-2)) <<< ((Int32.ofInt (n : Int)) &&& 31)).toBitVec) (fun j hj => ?_)
  rw [BitVec.getLsbD_and, bv_get, Int32.toBitVec_shiftLeft, (mB_sh5 n (by omega)).1, BitVec.shiftLeft_eq', BitVec.toNat_ofNat, Nat.mod_eq_of_lt (by omega), BitVec.getLsbD_shiftLeft]
  have e : ∀ k, k < 32 → ((Int32.ofInt (-2)).toBitVec).getLsbD k = decide (0 < k) := by decide +kernel
  by_cases e1 : j < n
  · have : ¬ ((n : Int) < (j : Int)) := by omega
    simp [e1, this]
  · rw [e _ (by omega)]
    by_cases e2 : j = n
    · subst e2; simp
    · have e3 : (n : Int) < (j : Int) := by omega
      have e4 : 0 < j - n := by omega
      simp [e1, e3, e4, hj]
theorem hs_clash (hS : Cst g f A) (hF : Wf A) {k : Int} (hk : -2147483648 ≤ k ∧ k < 2147483648) : OkI D m_hs_clash [vr D 0, vi k] (Zg g h) f (fun x f' => x = S_clash A k ∧ f' = f) := by
  have hn := hF.nn
  have hS' := hS
  obtain ⟨hg, hG, hH, hT⟩ := hS'
  have e4 := hG.c4
  have neg : ∀ (m : Nat) (s l : Int), 0 ≤ s → l < 0 → clN A m s l = -1 := by
    have nn : ∀ (p : Int → Bool) (m : Nat) (i l : Int), l < 0 → nthN m i l p = -1 := by
      intro p m
      induction m with
      | zero => intro i l _; rfl
      | succ m ih =>
        intro i l hl
        unfold nthN
        split
        · rw [if_neg (by omega)]; exact ih _ _ (by omega)
        · exact ih _ _ hl
    intro m
    induction m with
    | zero => intro s l _ _; rfl
    | succ m ih =>
      intro s l h0 hl
      have hc := cnt_rg (clset A s)
      unfold clN
      rw [show nth (clset A s) l = -1 from nn _ _ _ _ hl, if_pos rfl, ih _ _ (by omega) (by omega), ih _ _ (by omega) hl]
      split <;> rfl
  refine OkI_of (L0 := [vr D 0, vi k, vu, vu, vu, vu, vu, vu]) mi_hs_clash rfl rfl (Nat.le_of_ble_eq_true rfl) (fun C hR => ?_)
  have loop : ∀ (m : Nat) (s l : Int) (a4 a5 a6 a7 : Value), s + m = A 0 4 0 → 0 ≤ s → (-2147483648 ≤ l ∧ l < 2147483648) → (l < 0 ∨ l ≤ k) → clN A m s l = S_clash A k → a4.category = 1 → a5.category = 1 → a6.category = 1 → V D C m_hs_clash 4 [vr D 0, vi k, vi l, vi s, a4, a5, a6, a7] [] (Zg g h) f := by
    intro m
    induction m with
    | zero =>
      intro s l a4 a5 a6 a7 hm h0 hl hlk hr k4 k5 k6
      refine V_iload_3 d_hs_clash_4 ?_
      refine V_aload_0 d_hs_clash_5 ?_
      refine V_getR d_hs_clash_6 fl_hs_57 is_hs (r_hs_now hg) ?_
      refine V_getR d_hs_clash_9 fl_hs_90 (is_gd hg) (r_gd_counts hg) ?_
      refine V_iconst 4 d_hs_clash_12 ?_
      refine V_iald d_hs_clash_13 (is_gd_counts hg) (by omega) (by omega) ?_
      refine V_icmp_ge 115 d_hs_clash_14 (by decide) (by omega) (by omega) (fun c14 => ?_) (fun c14 => by omega)
      refine V_iconst (-1) d_hs_clash_115 ?_
      refine V_ireturn d_hs_clash_116 (hR _ _ ?_)
      exact ⟨hr, rfl⟩
    | succ m ih =>
      intro s l a4 a5 a6 a7 hm h0 hl hlk hr k4 k5 k6
      obtain ⟨e11, b11, b12⟩ := hH.at hF.2.1 h0 (by omega)
      have hr0 := hr
      obtain ⟨⟨e0, -⟩, b0, -⟩ := hG.sg hF.1 h0 (by omega)
      have hc := cnt_rg (clset A s)
      have key : q_and (q_and (mB (own A (A 7 s 0))) (q_shl (-2) s)) (q_xor (f (g + 82) s) (-1)) = mB (clset A s) := by
        rw [hG.mt h0 (by omega), mB_hi (by omega), mB_andn]
        refine mB_eq (fun t _ _ => ?_)
        unfold clset own isOf held
        by_cases e : t < A 0 4 0
        · simp [e, Bool.and_assoc]
        · simp [e]
      have hrg : nth (clset A s) l = -1 ∨ (0 ≤ nth (clset A s) l ∧ nth (clset A s) l < 24) := by
        rcases nthN_rg (clset A s) 24 0 l (by decide) with e | ⟨a, b, -⟩
        · exact Or.inl e
        · exact Or.inr ⟨a, by unfold nth; omega⟩
      unfold clN at hr
      refine V_iload_3 d_hs_clash_4 ?_
      refine V_aload_0 d_hs_clash_5 ?_
      refine V_getR d_hs_clash_6 fl_hs_57 is_hs (r_hs_now hg) ?_
      refine V_getR d_hs_clash_9 fl_hs_90 (is_gd hg) (r_gd_counts hg) ?_
      refine V_iconst 4 d_hs_clash_12 ?_
      refine V_iald d_hs_clash_13 (is_gd_counts hg) (by omega) (by omega) ?_
      refine V_icmp_ge 115 d_hs_clash_14 (by decide) (by omega) (by omega) (fun c14 => by omega) (fun c14 => ?_)
      refine V_iload_2 d_hs_clash_17 ?_
      refine V_if_lt 115 d_hs_clash_18 (by decide) (by omega) (fun c18 => ?_) (fun c18 => ?_)
      · skip
        refine V_iconst (-1) d_hs_clash_115 ?_
        refine V_ireturn d_hs_clash_116 (hR _ _ ?_)
        exact ⟨by rw [← hr0]; exact (neg (m + 1) s l h0 c18).symm, rfl⟩
      · skip
        refine V_aload_0 d_hs_clash_21 ?_
        refine V_getR d_hs_clash_22 fl_hs_28 is_hs r_hs_hires ?_
        refine V_getR d_hs_clash_25 fl_hs_143 is_hi r_hi_shadeOf ?_
        refine V_iload_3 d_hs_clash_28 ?_
        refine V_iald d_hs_clash_29 is_hi_shadeOf (by omega) (by omega) ?_
        refine V_iconst (-1) d_hs_clash_30 ?_
        refine V_icmp_eq 37 d_hs_clash_31 (by decide) (by omega) (by omega) (fun c31 => ?_) (fun c31 => ?_)
        · skip
          rw [if_pos (by omega)] at hr
          refine V_bipush (-2) d_hs_clash_37 (by decide) ?_
          refine V_iload_3 d_hs_clash_39 ?_
          refine V_ishl d_hs_clash_40 ?_
          refine V_istore_4 d_hs_clash_41 rfl ?_
          refine V_aload_0 d_hs_clash_43 ?_
          refine V_aload_0 d_hs_clash_44 ?_
          refine V_getR d_hs_clash_45 fl_hs_57 is_hs (r_hs_now hg) ?_
          refine V_getR d_hs_clash_48 fl_hs_140 (is_gd hg) (r_gd_sightings hg) ?_
          refine V_iload_3 d_hs_clash_51 ?_
          refine V_aald d_hs_clash_52 (is_gd_sightings hg) (by omega) (by omega) (r_gd_sightingsrow hg (by omega)) ?_
          refine V_iconst 0 d_hs_clash_53 ?_
          refine V_iald d_hs_clash_54 (is_gd_sightings_row hg (by omega)) (by omega) (by omega) ?_
          rw [e0]
          refine V_cvI1 d_hs_clash_55 ml_hs_165 mv_hs_unhiredOf (by decide) (Nat.le_of_ble_eq_true rfl) is_hs (ok_unhiredOf hS hF (by omega)) ?_
          rintro _ f2 ⟨rfl, e2⟩
          rw [e2]; clear e2 f2
          refine V_iload_4 d_hs_clash_58 ?_
          refine V_iand d_hs_clash_60 ?_
          refine V_istore_5 d_hs_clash_61 rfl ?_
          refine V_iload_5 d_hs_clash_63 ?_
          refine V_aload_0 d_hs_clash_65 ?_
          refine V_getR d_hs_clash_66 fl_hs_57 is_hs (r_hs_now hg) ?_
          refine V_getR d_hs_clash_69 fl_hs_171 (is_gd hg) (r_gd_meets hg) ?_
          refine V_iload_3 d_hs_clash_72 ?_
          refine V_iald d_hs_clash_73 (is_gd_meets hg) (by omega) (by omega) ?_
          refine V_iconst (-1) d_hs_clash_74 ?_
          refine V_ixor d_hs_clash_75 ?_
          refine V_iand d_hs_clash_76 ?_
          refine V_istore_6 d_hs_clash_77 rfl ?_
          rw [key]
          refine V_iload_6 d_hs_clash_79 ?_
          refine V_iload_2 d_hs_clash_81 ?_
          refine V_csI2 d_hs_clash_82 ml_hs_181 ms_hs_nthOf (by decide) (Nat.le_of_ble_eq_true rfl) (ok_nthOf hl) ?_
          rintro _ f2 ⟨rfl, e2⟩
          rw [e2]; clear e2 f2
          refine V_istore_7 d_hs_clash_85 rfl ?_
          refine V_iload_7 d_hs_clash_87 ?_
          refine V_iconst (-1) d_hs_clash_89 ?_
          refine V_icmp_eq 101 d_hs_clash_90 (by decide) (by omega) (by omega) (fun c90 => ?_) (fun c90 => ?_)
          · skip
            rw [if_pos c90] at hr
            refine V_iload_2 d_hs_clash_101 ?_
            refine V_iload_6 d_hs_clash_102 ?_
            refine V_csI1 d_hs_clash_104 ml_hs_103 ms_ji_bitCount (by decide) (Nat.le_of_ble_eq_true rfl) (ok_bitCount) ?_
            rintro _ f2 ⟨rfl, e2⟩
            rw [e2]; clear e2 f2
            refine V_isub d_hs_clash_107 ?_
            refine V_istore_2 d_hs_clash_108 rfl ?_
            refine V_iinc_3 d_hs_clash_109 rfl ?_
            refine V_goto 4 d_hs_clash_112 (by decide) ?_
            exact ih _ _ _ _ _ _ (by omega) (by omega) (by omega) (by omega) hr rfl rfl rfl
          · skip
            rw [if_neg c90] at hr
            refine V_bipush 100 d_hs_clash_93 (by decide) ?_
            refine V_iload_3 d_hs_clash_95 ?_
            refine V_imul d_hs_clash_96 ?_
            refine V_iload_7 d_hs_clash_97 ?_
            refine V_iadd d_hs_clash_99 ?_
            refine V_ireturn d_hs_clash_100 (hR _ _ ?_)
            exact ⟨hr, rfl⟩
        · skip
          rw [if_neg (by omega)] at hr
          refine V_goto 109 d_hs_clash_34 (by decide) ?_
          refine V_iinc_3 d_hs_clash_109 rfl ?_
          refine V_goto 4 d_hs_clash_112 (by decide) ?_
          exact ih _ _ _ _ _ _ (by omega) (by omega) (by omega) (by omega) hr k4 k5 k6
  refine V_iload_1 d_hs_clash_0 ?_
  refine V_istore_2 d_hs_clash_1 rfl ?_
  refine V_iconst 0 d_hs_clash_2 ?_
  refine V_istore_3 d_hs_clash_3 rfl ?_
  exact loop (A 0 4 0).toNat _ _ _ _ _ _ (by omega) (by decide) hk (Or.inr (Int.le_refl _)) rfl rfl rfl rfl
theorem ok_pricesOf (hS : Cst g f A) (hF : Wf A) {sh : Int} (hh : 0 ≤ sh ∧ sh < A 0 2 0) (p : Int → Bool) : OkI D m_hs_pricesOf [vr D 0, vi sh, vi (mB p)] (Zg g h) f (fun x f' => x = prN A sh p (A 0 4 0).toNat 0 0 ∧ f' = f) := by
  have hn := hF.nn
  have hS' := hS
  obtain ⟨hg, hG, hH, hT⟩ := hS'
  have e4 := hG.c4
  refine OkI_of (L0 := [vr D 0, vi sh, vi (mB p), vu, vu]) mi_hs_pricesOf rfl rfl (Nat.le_of_ble_eq_true rfl) (fun C hR => ?_)
  have loop : ∀ (m : Nat) (i a T : Int), i + m = A 0 4 0 → 0 ≤ i → prN A sh p m i a = T → T = prN A sh p (A 0 4 0).toNat 0 0 → V D C m_hs_pricesOf 5 [vr D 0, vi sh, vi (mB p), vi a, vi i] [] (Zg g h) f := by
    intro m
    induction m with
    | zero =>
      intro i a T hm h0 hr hT
      refine V_iload_4 d_hs_pricesOf_5 ?_
      refine V_aload_0 d_hs_pricesOf_7 ?_
      refine V_getR d_hs_pricesOf_8 fl_hs_57 is_hs (r_hs_now hg) ?_
      refine V_getR d_hs_pricesOf_11 fl_hs_90 (is_gd hg) (r_gd_counts hg) ?_
      refine V_iconst 4 d_hs_pricesOf_14 ?_
      refine V_iald d_hs_pricesOf_15 (is_gd_counts hg) (by omega) (by omega) ?_
      refine V_icmp_ge 50 d_hs_pricesOf_16 (by decide) (by omega) (by omega) (fun c16 => ?_) (fun c16 => by omega)
      refine V_iload_3 d_hs_pricesOf_50 ?_
      refine V_ireturn d_hs_pricesOf_51 (hR _ _ ?_)
      exact ⟨by rw [← hT]; exact hr, rfl⟩
    | succ m ih =>
      intro i a T hm h0 hr hT
      obtain ⟨⟨-, e9⟩, -, b9⟩ := hG.pp hF.1 hh (s := i) (by omega)
      unfold prN at hr
      refine V_iload_4 d_hs_pricesOf_5 ?_
      refine V_aload_0 d_hs_pricesOf_7 ?_
      refine V_getR d_hs_pricesOf_8 fl_hs_57 is_hs (r_hs_now hg) ?_
      refine V_getR d_hs_pricesOf_11 fl_hs_90 (is_gd hg) (r_gd_counts hg) ?_
      refine V_iconst 4 d_hs_pricesOf_14 ?_
      refine V_iald d_hs_pricesOf_15 (is_gd_counts hg) (by omega) (by omega) ?_
      refine V_icmp_ge 50 d_hs_pricesOf_16 (by decide) (by omega) (by omega) (fun c16 => by omega) (fun c16 => ?_)
      refine V_iload_2 d_hs_pricesOf_19 ?_
      refine V_iload_4 d_hs_pricesOf_20 ?_
      refine V_ishr d_hs_pricesOf_22 ?_
      refine V_iconst 1 d_hs_pricesOf_23 ?_
      refine V_iand d_hs_pricesOf_24 ?_
      refine V_iconst 1 d_hs_pricesOf_25 ?_
      refine V_icmp_ne 44 d_hs_pricesOf_26 (by decide) (mB_shrrg _ _) (by decide) (fun c26 => ?_) (fun c26 => ?_)
      · skip
        rw [mB_ib0 _ (by omega)] at c26
        rw [if_neg (by rw [c26]; decide)] at hr
        refine V_iinc_4 d_hs_pricesOf_44 rfl ?_
        refine V_goto 5 d_hs_pricesOf_47 (by decide) ?_
        exact ih _ _ _ (by omega) (by omega) hr hT
      · skip
        rw [mB_ib _ (by omega)] at c26
        rw [if_pos c26] at hr
        refine V_iload_3 d_hs_pricesOf_29 ?_
        refine V_aload_0 d_hs_pricesOf_30 ?_
        refine V_getR d_hs_pricesOf_31 fl_hs_57 is_hs (r_hs_now hg) ?_
        refine V_getR d_hs_pricesOf_34 fl_hs_155 (is_gd hg) (r_gd_prices hg) ?_
        refine V_iload_1 d_hs_pricesOf_37 ?_
        refine V_aald d_hs_pricesOf_38 (is_gd_prices hg) (by omega) (by omega) (r_gd_pricesrow hg (by omega)) ?_
        refine V_iload_4 d_hs_pricesOf_39 ?_
        refine V_iald d_hs_pricesOf_41 (is_gd_prices_row hg (by omega)) (by omega) (by omega) ?_
        rw [e9]
        refine V_iadd d_hs_pricesOf_42 ?_
        refine V_istore_3 d_hs_pricesOf_43 rfl ?_
        refine V_iinc_4 d_hs_pricesOf_44 rfl ?_
        refine V_goto 5 d_hs_pricesOf_47 (by decide) ?_
        exact ih _ _ _ (by omega) (by omega) hr hT
  refine V_iconst 0 d_hs_pricesOf_0 ?_
  refine V_istore_3 d_hs_pricesOf_1 rfl ?_
  refine V_iconst 0 d_hs_pricesOf_2 ?_
  refine V_istore_4 d_hs_pricesOf_3 rfl ?_
  exact loop (A 0 4 0).toNat _ _ _ (by omega) (by decide) rfl rfl
theorem ok_leastPassOf (hS : Cst g f A) (hF : Wf A) {sh : Int} (hh : 0 ≤ sh ∧ sh < A 0 2 0) (p : Int → Bool) : OkI D m_hs_leastPassOf [vr D 0, vi sh, vi (mB p)] (Zg g h) f (fun x f' => x = lpN A sh p (A 0 4 0).toNat 0 (-1) ∧ f' = f) := by
  have hn := hF.nn
  have hS' := hS
  obtain ⟨hg, hG, hH, hT⟩ := hS'
  have e4 := hG.c4
  refine OkI_of (L0 := [vr D 0, vi sh, vi (mB p), vu, vu, vu]) mi_hs_leastPassOf rfl rfl (Nat.le_of_ble_eq_true rfl) (fun C hR => ?_)
  have loop : ∀ (m : Nat) (i a T : Int) (a5 : Value), i + m = A 0 4 0 → 0 ≤ i → (-1 ≤ a ∧ a ≤ 1000) → lpN A sh p m i a = T → T = lpN A sh p (A 0 4 0).toNat 0 (-1) → V D C m_hs_leastPassOf 5 [vr D 0, vi sh, vi (mB p), vi a, vi i, a5] [] (Zg g h) f := by
    intro m
    induction m with
    | zero =>
      intro i a T a5 hm h0 ha hr hT
      refine V_iload_4 d_hs_leastPassOf_5 ?_
      refine V_aload_0 d_hs_leastPassOf_7 ?_
      refine V_getR d_hs_leastPassOf_8 fl_hs_57 is_hs (r_hs_now hg) ?_
      refine V_getR d_hs_leastPassOf_11 fl_hs_90 (is_gd hg) (r_gd_counts hg) ?_
      refine V_iconst 4 d_hs_leastPassOf_14 ?_
      refine V_iald d_hs_leastPassOf_15 (is_gd_counts hg) (by omega) (by omega) ?_
      refine V_icmp_ge 63 d_hs_leastPassOf_16 (by decide) (by omega) (by omega) (fun c16 => ?_) (fun c16 => by omega)
      refine V_iload_3 d_hs_leastPassOf_63 ?_
      refine V_ireturn d_hs_leastPassOf_64 (hR _ _ ?_)
      exact ⟨by rw [← hT]; exact hr, rfl⟩
    | succ m ih =>
      intro i a T a5 hm h0 ha hr hT
      obtain ⟨⟨e8, -⟩, b8, -⟩ := hG.pp hF.1 hh (s := i) (by omega)
      unfold lpN at hr
      refine V_iload_4 d_hs_leastPassOf_5 ?_
      refine V_aload_0 d_hs_leastPassOf_7 ?_
      refine V_getR d_hs_leastPassOf_8 fl_hs_57 is_hs (r_hs_now hg) ?_
      refine V_getR d_hs_leastPassOf_11 fl_hs_90 (is_gd hg) (r_gd_counts hg) ?_
      refine V_iconst 4 d_hs_leastPassOf_14 ?_
      refine V_iald d_hs_leastPassOf_15 (is_gd_counts hg) (by omega) (by omega) ?_
      refine V_icmp_ge 63 d_hs_leastPassOf_16 (by decide) (by omega) (by omega) (fun c16 => by omega) (fun c16 => ?_)
      refine V_aload_0 d_hs_leastPassOf_19 ?_
      refine V_getR d_hs_leastPassOf_20 fl_hs_57 is_hs (r_hs_now hg) ?_
      refine V_getR d_hs_leastPassOf_23 fl_hs_152 (is_gd hg) (r_gd_passes hg) ?_
      refine V_iload_1 d_hs_leastPassOf_26 ?_
      refine V_aald d_hs_leastPassOf_27 (is_gd_passes hg) (by omega) (by omega) (r_gd_passesrow hg (by omega)) ?_
      refine V_iload_4 d_hs_leastPassOf_28 ?_
      refine V_iald d_hs_leastPassOf_30 (is_gd_passes_row hg (by omega)) (by omega) (by omega) ?_
      rw [e8]
      refine V_istore_5 d_hs_leastPassOf_31 rfl ?_
      refine V_iload_2 d_hs_leastPassOf_33 ?_
      refine V_iload_4 d_hs_leastPassOf_34 ?_
      refine V_ishr d_hs_leastPassOf_36 ?_
      refine V_iconst 1 d_hs_leastPassOf_37 ?_
      refine V_iand d_hs_leastPassOf_38 ?_
      refine V_iconst 1 d_hs_leastPassOf_39 ?_
      refine V_icmp_ne 57 d_hs_leastPassOf_40 (by decide) (mB_shrrg _ _) (by decide) (fun c40 => ?_) (fun c40 => ?_)
      · skip
        rw [mB_ib0 _ (by omega)] at c40
        rw [if_neg (by rw [c40]; exact fun h => absurd h.1 (by decide))] at hr
        refine V_iinc_4 d_hs_leastPassOf_57 rfl ?_
        refine V_goto 5 d_hs_leastPassOf_60 (by decide) ?_
        exact ih _ _ _ _ (by omega) (by omega) (by omega) hr hT
      · skip
        rw [mB_ib _ (by omega)] at c40
        refine V_iload_3 d_hs_leastPassOf_43 ?_
        refine V_iconst (-1) d_hs_leastPassOf_44 ?_
        refine V_icmp_eq 54 d_hs_leastPassOf_45 (by decide) (by omega) (by omega) (fun c45 => ?_) (fun c45 => ?_)
        · skip
          rw [if_pos ⟨c40, Or.inl c45⟩] at hr
          refine V_iload_5 d_hs_leastPassOf_54 ?_
          refine V_istore_3 d_hs_leastPassOf_56 rfl ?_
          refine V_iinc_4 d_hs_leastPassOf_57 rfl ?_
          refine V_goto 5 d_hs_leastPassOf_60 (by decide) ?_
          exact ih _ _ _ _ (by omega) (by omega) (by omega) hr hT
        · skip
          refine V_iload_5 d_hs_leastPassOf_48 ?_
          refine V_iload_3 d_hs_leastPassOf_50 ?_
          refine V_icmp_ge 57 d_hs_leastPassOf_51 (by decide) (by omega) (by omega) (fun c51 => ?_) (fun c51 => ?_)
          · skip
            rw [if_neg (by omega)] at hr
            refine V_iinc_4 d_hs_leastPassOf_57 rfl ?_
            refine V_goto 5 d_hs_leastPassOf_60 (by decide) ?_
            exact ih _ _ _ _ (by omega) (by omega) (by omega) hr hT
          · skip
            rw [if_pos ⟨c40, Or.inr c51⟩] at hr
            refine V_iload_5 d_hs_leastPassOf_54 ?_
            refine V_istore_3 d_hs_leastPassOf_56 rfl ?_
            refine V_iinc_4 d_hs_leastPassOf_57 rfl ?_
            refine V_goto 5 d_hs_leastPassOf_60 (by decide) ?_
            exact ih _ _ _ _ (by omega) (by omega) (by omega) hr hT
  refine V_iconst (-1) d_hs_leastPassOf_0 ?_
  refine V_istore_3 d_hs_leastPassOf_1 rfl ?_
  refine V_iconst 0 d_hs_leastPassOf_2 ?_
  refine V_istore_4 d_hs_leastPassOf_3 rfl ?_
  exact loop (A 0 4 0).toNat _ _ _ _ (by omega) (by decide) (by decide) rfl rfl
theorem ok_cheapestOf (hS : Cst g f A) (hF : Wf A) (p : Int → Bool) : OkI D m_hs_cheapestOf [vr D 0, vi (mB p)] (Zg g h) f (fun x f' => x = cheapest A p ∧ f' = f) := by
  have hn := hF.nn
  have hS' := hS
  obtain ⟨hg, hG, hH, hT⟩ := hS'
  have e2 := hG.1 2 (by decide) (by decide)
  refine OkI_of (L0 := [vr D 0, vi (mB p), vu, vu, vu]) mi_hs_cheapestOf rfl rfl (Nat.le_of_ble_eq_true rfl) (fun C hR => ?_)
  have loop : ∀ (m : Nat) (i b T : Int) (a4 : Value), i + m = A 0 2 0 → 0 ≤ i → (-1 ≤ b ∧ b < A 0 2 0) → cpN A p m i b = T → T = cheapest A p → V D C m_hs_cheapestOf 4 [vr D 0, vi (mB p), vi b, vi i, a4] [] (Zg g h) f := by
    intro m
    induction m with
    | zero =>
      intro i b T a4 hm h0 hb hr hT
      refine V_iload_3 d_hs_cheapestOf_4 ?_
      refine V_aload_0 d_hs_cheapestOf_5 ?_
      refine V_getR d_hs_cheapestOf_6 fl_hs_57 is_hs (r_hs_now hg) ?_
      refine V_getR d_hs_cheapestOf_9 fl_hs_90 (is_gd hg) (r_gd_counts hg) ?_
      refine V_iconst 2 d_hs_cheapestOf_12 ?_
      refine V_iald d_hs_cheapestOf_13 (is_gd_counts hg) (by omega) (by omega) ?_
      refine V_icmp_ge 72 d_hs_cheapestOf_14 (by decide) (by omega) (by omega) (fun c14 => ?_) (fun c14 => by omega)
      refine V_iload_2 d_hs_cheapestOf_72 ?_
      refine V_ireturn d_hs_cheapestOf_73 (hR _ _ ?_)
      exact ⟨by rw [← hT]; exact hr, rfl⟩
    | succ m ih =>
      intro i b T a4 hm h0 hb hr hT
      obtain ⟨ei, bi⟩ := hG.fee hF.1 (k := i) (by omega)
      unfold cpN at hr
      refine V_iload_3 d_hs_cheapestOf_4 ?_
      refine V_aload_0 d_hs_cheapestOf_5 ?_
      refine V_getR d_hs_cheapestOf_6 fl_hs_57 is_hs (r_hs_now hg) ?_
      refine V_getR d_hs_cheapestOf_9 fl_hs_90 (is_gd hg) (r_gd_counts hg) ?_
      refine V_iconst 2 d_hs_cheapestOf_12 ?_
      refine V_iald d_hs_cheapestOf_13 (is_gd_counts hg) (by omega) (by omega) ?_
      refine V_icmp_ge 72 d_hs_cheapestOf_14 (by decide) (by omega) (by omega) (fun c14 => by omega) (fun c14 => ?_)
      refine V_iload_1 d_hs_cheapestOf_17 ?_
      refine V_iload_3 d_hs_cheapestOf_18 ?_
      refine V_ishr d_hs_cheapestOf_19 ?_
      refine V_iconst 1 d_hs_cheapestOf_20 ?_
      refine V_iand d_hs_cheapestOf_21 ?_
      refine V_iconst 1 d_hs_cheapestOf_22 ?_
      refine V_icmp_ne 30 d_hs_cheapestOf_23 (by decide) (mB_shrrg _ _) (by decide) (fun c23 => ?_) (fun c23 => ?_)
      · skip
        rw [mB_ib0 _ (by omega)] at c23
        rw [if_neg (by rw [c23]; exact fun h => absurd h.1 (by decide))] at hr
        refine V_iconst 0 d_hs_cheapestOf_30 ?_
        refine V_istore_4 d_hs_cheapestOf_31 rfl ?_
        refine V_iload_4 d_hs_cheapestOf_33 ?_
        refine V_if_eq 66 d_hs_cheapestOf_35 (by decide) (by omega) (fun c35 => ?_) (fun c35 => by omega)
        refine V_iinc_3 d_hs_cheapestOf_66 rfl ?_
        refine V_goto 4 d_hs_cheapestOf_69 (by decide) ?_
        exact ih _ _ _ _ (by omega) (by omega) (by omega) hr hT
      · skip
        rw [mB_ib _ (by omega)] at c23
        refine V_iconst 1 d_hs_cheapestOf_26 ?_
        refine V_goto 31 d_hs_cheapestOf_27 (by decide) ?_
        refine V_istore_4 d_hs_cheapestOf_31 rfl ?_
        refine V_iload_4 d_hs_cheapestOf_33 ?_
        refine V_if_eq 66 d_hs_cheapestOf_35 (by decide) (by omega) (fun c35 => by omega) (fun c35 => ?_)
        refine V_iload_2 d_hs_cheapestOf_38 ?_
        refine V_iconst (-1) d_hs_cheapestOf_39 ?_
        refine V_icmp_eq 64 d_hs_cheapestOf_40 (by decide) (by omega) (by omega) (fun c40 => ?_) (fun c40 => ?_)
        · skip
          rw [if_pos ⟨c23, Or.inl c40⟩] at hr
          refine V_iload_3 d_hs_cheapestOf_64 ?_
          refine V_istore_2 d_hs_cheapestOf_65 rfl ?_
          refine V_iinc_3 d_hs_cheapestOf_66 rfl ?_
          refine V_goto 4 d_hs_cheapestOf_69 (by decide) ?_
          exact ih _ _ _ _ (by omega) (by omega) (by omega) hr hT
        · skip
          obtain ⟨eb, bb⟩ := hG.fee hF.1 (k := b) (by omega)
          refine V_aload_0 d_hs_cheapestOf_43 ?_
          refine V_getR d_hs_cheapestOf_44 fl_hs_57 is_hs (r_hs_now hg) ?_
          refine V_getR d_hs_cheapestOf_47 fl_hs_233 (is_gd hg) (r_gd_fees hg) ?_
          refine V_iload_3 d_hs_cheapestOf_50 ?_
          refine V_iald d_hs_cheapestOf_51 (is_gd_fees hg) (by omega) (by omega) ?_
          refine V_aload_0 d_hs_cheapestOf_52 ?_
          refine V_getR d_hs_cheapestOf_53 fl_hs_57 is_hs (r_hs_now hg) ?_
          refine V_getR d_hs_cheapestOf_56 fl_hs_233 (is_gd hg) (r_gd_fees hg) ?_
          refine V_iload_2 d_hs_cheapestOf_59 ?_
          refine V_iald d_hs_cheapestOf_60 (is_gd_fees hg) (by omega) (by omega) ?_
          refine V_icmp_ge 66 d_hs_cheapestOf_61 (by decide) (by omega) (by omega) (fun c61 => ?_) (fun c61 => ?_)
          · skip
            rw [if_neg (by omega)] at hr
            refine V_iinc_3 d_hs_cheapestOf_66 rfl ?_
            refine V_goto 4 d_hs_cheapestOf_69 (by decide) ?_
            exact ih _ _ _ _ (by omega) (by omega) (by omega) hr hT
          · skip
            rw [if_pos ⟨c23, Or.inr (by omega)⟩] at hr
            refine V_iload_3 d_hs_cheapestOf_64 ?_
            refine V_istore_2 d_hs_cheapestOf_65 rfl ?_
            refine V_iinc_3 d_hs_cheapestOf_66 rfl ?_
            refine V_goto 4 d_hs_cheapestOf_69 (by decide) ?_
            exact ih _ _ _ _ (by omega) (by omega) (by omega) hr hT
  refine V_iconst (-1) d_hs_cheapestOf_0 ?_
  refine V_istore_2 d_hs_cheapestOf_1 rfl ?_
  refine V_iconst 0 d_hs_cheapestOf_2 ?_
  refine V_istore_3 d_hs_cheapestOf_3 rfl ?_
  exact loop (A 0 2 0).toNat _ _ _ _ (by omega) (by decide) (by omega) rfl rfl
/-- the cheapest of a set that isn't empty is one of it -/
theorem cheapest_in (hF : Wf A) {p : Int → Bool} (hp : ∀ j, p j = true → j < A 0 2 0) {x : Int} (hx : 0 ≤ x) (hpx : p x = true) : 0 ≤ cheapest A p ∧ cheapest A p < A 0 2 0 ∧ p (cheapest A p) = true := by
  have gen : ∀ (m : Nat) (i b : Int), 0 ≤ i → i + m = A 0 2 0 → ((0 ≤ b ∧ b < A 0 2 0 ∧ p b = true) ∨ (b = -1 ∧ ∃ y, i ≤ y ∧ p y = true)) → 0 ≤ cpN A p m i b ∧ cpN A p m i b < A 0 2 0 ∧ p (cpN A p m i b) = true := by
    intro m
    induction m with
    | zero =>
      intro i b h0 hm hb
      rcases hb with hb | ⟨-, y, hy, hpy⟩
      · exact hb
      · have := hp y hpy; omega
    | succ m ih =>
      intro i b h0 hm hb
      unfold cpN
      refine ih (i + 1) _ (by omega) (by omega) ?_
      split
      · next hc => left; exact ⟨h0, by omega, hc.1⟩
      · next hc =>
        rcases hb with hb | ⟨hb1, y, hy, hpy⟩
        · exact Or.inl hb
        · right
          refine ⟨hb1, y, ?_, hpy⟩
          rcases Int.lt_or_le i y with e | e
          · omega
          · have : y = i := by omega
            subst this
            exact absurd ⟨hpy, Or.inl hb1⟩ hc
  have hn := hF.nn
  exact gen (A 0 2 0).toNat 0 (-1) (by decide) (by omega) (Or.inr ⟨rfl, x, hx, hpx⟩)
theorem cnt_ex {p : Int → Bool} (h : 0 < cnt p) : ∃ x, 0 ≤ x ∧ x < 31 ∧ p x = true := by
  obtain ⟨s0, s1, s2, s3⟩ := srch_spec (n := 31) (by decide) p
  by_cases e : srch 31 p < 31
  · exact ⟨_, s0, e, s3 e⟩
  · have : cnt p = 0 := cntN_zero 31 0 (fun j a b => s2 j a (by omega))
    omega
theorem hs_crowd (hS : Cst g f A) (hF : Wf A) {p t n k : Int} (hp : -2147483648 ≤ p ∧ p < 2147483648) (ht : -2147483648 ≤ t ∧ t < 2147483648) (hn1 : -2147483648 ≤ n ∧ n < 2147483648) (hk : -2147483648 ≤ k ∧ k < 2147483648) : OkI D m_hs_crowd [vr D 0, vi p, vi t, vi n, vi k] (Zg g h) f (fun x f' => x = S_crowd A p t n k ∧ f' = f) := by
  have hn := hF.nn
  have hS' := hS
  obtain ⟨hg, hG, hH, hT⟩ := hS'
  refine OkI_of (L0 := [vr D 0, vi p, vi t, vi n, vi k, vu, vu, vu, vu]) mi_hs_crowd rfl rfl (Nat.le_of_ble_eq_true rfl) (fun C hR => ?_)
  have loop : ∀ (m : Nat) (i a T : Int) (q : Int → Bool) (a8 : Value), (1 ≤ n ∧ n ≤ 5) → (-1 ≤ k ∧ k < n) → i + m = n → 0 ≤ i → (∀ j, q j = true → j < A 0 2 0) → m ≤ cnt q → (0 ≤ a ∧ a ≤ 99 * i) → cwN A k m i q a = T → T = S_crowd A p t n k → V D C m_hs_crowd 59 [vr D 0, vi p, vi t, vi n, vi k, vi (mB q), vi a, vi i, a8] [] (Zg g h) f := by
    intro m
    induction m with
    | zero =>
      intro i a T q a8 hn5 hkn hm h0 hq hc ha hr hT
      refine V_iload_7 d_hs_crowd_59 ?_
      refine V_iload_3 d_hs_crowd_61 ?_
      refine V_icmp_ge 121 d_hs_crowd_62 (by decide) (by omega) (by omega) (fun c62 => ?_) (fun c62 => by omega)
      refine V_iload_6 d_hs_crowd_121 ?_
      refine V_ireturn d_hs_crowd_123 (hR _ _ ?_)
      exact ⟨by rw [← hT]; exact hr, rfl⟩
    | succ m ih =>
      intro i a T q a8 hn5 hkn hm h0 hq hc ha hr hT
      obtain ⟨x, hx0, hx1, hx2⟩ := cnt_ex (p := q) (by omega)
      obtain ⟨c0, c1, c2⟩ := cheapest_in hF hq hx0 hx2
      obtain ⟨ef, bf⟩ := hG.fee hF.1 (k := cheapest A q) ⟨c0, c1⟩
      unfold cwN at hr
      refine V_iload_7 d_hs_crowd_59 ?_
      refine V_iload_3 d_hs_crowd_61 ?_
      refine V_icmp_ge 121 d_hs_crowd_62 (by decide) (by omega) (by omega) (fun c62 => by omega) (fun c62 => ?_)
      refine V_aload_0 d_hs_crowd_65 ?_
      refine V_iload_5 d_hs_crowd_66 ?_
      refine V_cvI1 d_hs_crowd_68 ml_hs_230 mv_hs_cheapestOf (by decide) (Nat.le_of_ble_eq_true rfl) is_hs (ok_cheapestOf hS hF q) ?_
      rintro _ f2 ⟨rfl, e2⟩
      rw [e2]; clear e2 f2
      refine V_istore_8 d_hs_crowd_71 rfl ?_
      refine V_iload_7 d_hs_crowd_73 ?_
      refine V_iload_4 d_hs_crowd_75 ?_
      refine V_icmp_eq 86 d_hs_crowd_77 (by decide) (by omega) (by omega) (fun c77 => ?_) (fun c77 => ?_)
      · skip
        rw [if_pos c77] at hr
        refine V_iload_8 d_hs_crowd_86 ?_
        refine V_ireturn d_hs_crowd_88 (hR _ _ ?_)
        exact ⟨by rw [← hT]; exact hr, rfl⟩
      · skip
        rw [if_neg c77] at hr
        refine V_iload_8 d_hs_crowd_80 ?_
        refine V_iconst (-1) d_hs_crowd_82 ?_
        refine V_icmp_ne 89 d_hs_crowd_83 (by decide) (by omega) (by omega) (fun c83 => ?_) (fun c83 => by omega)
        refine V_iload_5 d_hs_crowd_89 ?_
        refine V_iconst 1 d_hs_crowd_91 ?_
        refine V_iload_8 d_hs_crowd_92 ?_
        refine V_ishl d_hs_crowd_94 ?_
        refine V_iconst (-1) d_hs_crowd_95 ?_
        refine V_ixor d_hs_crowd_96 ?_
        refine V_iand d_hs_crowd_97 ?_
        rw [mB_one (by omega), mB_andn]
        refine V_istore_5 d_hs_crowd_98 rfl ?_
        refine V_iload_6 d_hs_crowd_100 ?_
        refine V_aload_0 d_hs_crowd_102 ?_
        refine V_getR d_hs_crowd_103 fl_hs_57 is_hs (r_hs_now hg) ?_
        refine V_getR d_hs_crowd_106 fl_hs_233 (is_gd hg) (r_gd_fees hg) ?_
        refine V_iload_8 d_hs_crowd_109 ?_
        refine V_iald d_hs_crowd_111 (is_gd_fees hg) (by omega) (by omega) ?_
        rw [ef]
        refine V_iadd d_hs_crowd_112 ?_
        refine V_istore_6 d_hs_crowd_113 rfl ?_
        refine V_iinc_7 d_hs_crowd_115 rfl ?_
        refine V_goto 59 d_hs_crowd_118 (by decide) ?_
        refine ih _ _ _ (less q (cheapest A q)) _ hn5 hkn (by omega) (by omega) (fun j hj => hq j (by unfold less at hj; simp at hj; exact hj.1)) ?_ (by omega) hr hT
        have : cnt (less q (cheapest A q)) = cnt q - 1 := cntN_rem c2 31 0 c0 (by omega)
        omega
  refine V_aload_0 d_hs_crowd_0 ?_
  refine V_iload_1 d_hs_crowd_1 ?_
  refine V_iload_2 d_hs_crowd_2 ?_
  refine V_cvI2 d_hs_crowd_3 ml_hs_187 mv_hs_isPlaceAndHour (by decide) (Nat.le_of_ble_eq_true rfl) is_hs (ok_isPlaceAndHour hS hF hp ht) ?_
  rintro x3 f2 ⟨hx3, e2⟩
  rw [e2]; clear e2 f2
  refine V_if_eq 31 d_hs_crowd_6 (by decide) (by omega) (fun c6 => ?_) (fun c6 => ?_)
  · skip
    refine V_iconst (-1) d_hs_crowd_31 ?_
    refine V_ireturn d_hs_crowd_32 (hR _ _ ?_)
    refine ⟨?_, rfl⟩
    unfold S_crowd; rw [if_neg (by omega)]
  · skip
    refine V_iload_3 d_hs_crowd_9 ?_
    refine V_iconst 1 d_hs_crowd_10 ?_
    refine V_icmp_lt 31 d_hs_crowd_11 (by decide) (by omega) (by omega) (fun c11 => ?_) (fun c11 => ?_)
    · skip
      refine V_iconst (-1) d_hs_crowd_31 ?_
      refine V_ireturn d_hs_crowd_32 (hR _ _ ?_)
      refine ⟨?_, rfl⟩
      unfold S_crowd; rw [if_neg (by omega)]
    · skip
      refine V_iload_3 d_hs_crowd_14 ?_
      refine V_iconst 5 d_hs_crowd_15 ?_
      refine V_icmp_gt 31 d_hs_crowd_16 (by decide) (by omega) (by omega) (fun c16 => ?_) (fun c16 => ?_)
      · skip
        refine V_iconst (-1) d_hs_crowd_31 ?_
        refine V_ireturn d_hs_crowd_32 (hR _ _ ?_)
        refine ⟨?_, rfl⟩
        unfold S_crowd; rw [if_neg (by omega)]
      · skip
        refine V_iload_4 d_hs_crowd_19 ?_
        refine V_iconst (-1) d_hs_crowd_21 ?_
        refine V_icmp_lt 31 d_hs_crowd_22 (by decide) (by omega) (by omega) (fun c22 => ?_) (fun c22 => ?_)
        · skip
          refine V_iconst (-1) d_hs_crowd_31 ?_
          refine V_ireturn d_hs_crowd_32 (hR _ _ ?_)
          refine ⟨?_, rfl⟩
          unfold S_crowd; rw [if_neg (by omega)]
        · skip
          refine V_iload_4 d_hs_crowd_25 ?_
          refine V_iload_3 d_hs_crowd_27 ?_
          refine V_icmp_lt 33 d_hs_crowd_28 (by decide) (by omega) (by omega) (fun c28 => ?_) (fun c28 => ?_)
          · skip
            refine V_aload_0 d_hs_crowd_33 ?_
            refine V_iload_1 d_hs_crowd_34 ?_
            refine V_iload_2 d_hs_crowd_35 ?_
            refine V_iconst 1 d_hs_crowd_36 ?_
            refine V_cvI3 d_hs_crowd_37 ml_hs_226 mv_hs_could (by decide) (Nat.le_of_ble_eq_true rfl) is_hs (hs_could hS hF hp ht (Or.inr rfl)) ?_
            rintro _ f2 ⟨rfl, e2⟩
            rw [e2]; clear e2 f2
            rw [show S_could A p t 1 = mB (fun b => decide (b < A 0 2 0) && bodyOk A p t 1 b) by unfold S_could; rw [if_pos (by omega)]; rfl]
            refine V_istore_5 d_hs_crowd_40 rfl ?_
            refine V_iload_5 d_hs_crowd_42 ?_
            refine V_csI1 d_hs_crowd_44 ml_hs_103 ms_ji_bitCount (by decide) (Nat.le_of_ble_eq_true rfl) (ok_bitCount) ?_
            rintro _ f2 ⟨rfl, e2⟩
            rw [e2]; clear e2 f2
            refine V_iload_3 d_hs_crowd_47 ?_
            refine V_icmp_ge 53 d_hs_crowd_48 (by decide) (by have := cnt_rg (fun b => decide (b < A 0 2 0) && bodyOk A p t 1 b); omega) (by omega) (fun c48 => ?_) (fun c48 => ?_)
            · skip
              refine V_iconst 0 d_hs_crowd_53 ?_
              refine V_istore_6 d_hs_crowd_54 rfl ?_
              refine V_iconst 0 d_hs_crowd_56 ?_
              refine V_istore_7 d_hs_crowd_57 rfl ?_
              refine loop n.toNat _ _ _ _ _ (by omega) (by omega) (by omega) (by decide) (fun j hj => by simp at hj; exact hj.1) (by omega) (by decide) rfl ?_
              unfold S_crowd; rw [if_pos (by omega)]
            · skip
              refine V_iconst (-1) d_hs_crowd_51 ?_
              refine V_ireturn d_hs_crowd_52 (hR _ _ ?_)
              refine ⟨?_, rfl⟩
              unfold S_crowd; rw [if_neg (by omega)]
          · skip
            refine V_iconst (-1) d_hs_crowd_31 ?_
            refine V_ireturn d_hs_crowd_32 (hR _ _ ?_)
            refine ⟨?_, rfl⟩
            unfold S_crowd; rw [if_neg (by omega)]
theorem hs_seed (hS : Cst g f A) {x : Int} (hx : -2147483648 ≤ x ∧ x < 2147483648) : OkI D m_hs_seed [vr D 0, vi x] (Zg g h) f (fun r f' => r = (if x < 0 then 0 else 1) ∧ f' = (if x < 0 then f else q_up f 0 7 x)) := by
  refine OkB_of (L0 := [vr D 0, vi x]) mi_hs_seed rfl rfl (Nat.le_of_ble_eq_true rfl) (fun C hR => ?_)
  refine V_iload_1 d_hs_seed_0 ?_
  refine V_if_ge 6 d_hs_seed_1 (by decide) (by omega) (fun c1 => ?_) (fun c1 => ?_)
  · skip
    refine V_aload_0 d_hs_seed_6 ?_
    refine V_iload_1 d_hs_seed_7 ?_
    refine V_putI d_hs_seed_8 fl_hs_50 is_hs ?_
    refine V_iconst 1 d_hs_seed_11 ?_
    refine V_ireturn d_hs_seed_12 (hR _ _ (by decide) ?_)
    exact ⟨by rw [if_neg (by omega)], by rw [if_neg (by omega)]⟩
  · skip
    refine V_iconst 0 d_hs_seed_4 ?_
    refine V_ireturn d_hs_seed_5 (hR _ _ (by decide) ?_)
    exact ⟨by rw [if_pos c1], by rw [if_pos c1]⟩
theorem hs_average (hS : Cst g f A) (hF : Wf A) : OkI D m_hs_average [vr D 0] (Zg g h) f (fun x f' => x = S_average A ∧ f' = f) := by
  have hn := hF.nn
  have hS' := hS
  obtain ⟨hg, hG, hH, hT⟩ := hS'
  have e4 := hG.c4
  refine OkI_of (L0 := [vr D 0, vu, vu, vu, vu]) mi_hs_average rfl rfl (Nat.le_of_ble_eq_true rfl) (fun C hR => ?_)
  have loop : ∀ (m : Nat) (s a T : Int) (a3 a4 : Value), s + m = A 0 4 0 → 0 ≤ s → a3.category = 1 → avN A m s a = T → T = S_average A → V D C m_hs_average 4 [vr D 0, vi a, vi s, a3, a4] [] (Zg g h) f := by
    intro m
    induction m with
    | zero =>
      intro s a T a3 a4 hm h0 h3 hr hT
      refine V_iload_2 d_hs_average_4 ?_
      refine V_aload_0 d_hs_average_5 ?_
      refine V_getR d_hs_average_6 fl_hs_57 is_hs (r_hs_now hg) ?_
      refine V_getR d_hs_average_9 fl_hs_90 (is_gd hg) (r_gd_counts hg) ?_
      refine V_iconst 4 d_hs_average_12 ?_
      refine V_iald d_hs_average_13 (is_gd_counts hg) (by omega) (by omega) ?_
      refine V_icmp_ge 87 d_hs_average_14 (by decide) (by omega) (by omega) (fun c14 => ?_) (fun c14 => by omega)
      refine V_iload_1 d_hs_average_87 ?_
      refine V_ireturn d_hs_average_88 (hR _ _ ?_)
      exact ⟨by rw [← hT]; exact hr, rfl⟩
    | succ m ih =>
      intro s a T a3 a4 hm h0 h3 hr hT
      obtain ⟨e11, b11, b12⟩ := hH.at hF.2.1 h0 (by omega)
      unfold avN at hr
      refine V_iload_2 d_hs_average_4 ?_
      refine V_aload_0 d_hs_average_5 ?_
      refine V_getR d_hs_average_6 fl_hs_57 is_hs (r_hs_now hg) ?_
      refine V_getR d_hs_average_9 fl_hs_90 (is_gd hg) (r_gd_counts hg) ?_
      refine V_iconst 4 d_hs_average_12 ?_
      refine V_iald d_hs_average_13 (is_gd_counts hg) (by omega) (by omega) ?_
      refine V_icmp_ge 87 d_hs_average_14 (by decide) (by omega) (by omega) (fun c14 => by omega) (fun c14 => ?_)
      refine V_aload_0 d_hs_average_17 ?_
      refine V_getR d_hs_average_18 fl_hs_28 is_hs r_hs_hires ?_
      refine V_getR d_hs_average_21 fl_hs_143 is_hi r_hi_shadeOf ?_
      refine V_iload_2 d_hs_average_24 ?_
      refine V_iald d_hs_average_25 is_hi_shadeOf (by omega) (by omega) ?_
      rw [e11]
      refine V_istore_3 d_hs_average_26 rfl ?_
      refine V_iload_3 d_hs_average_27 ?_
      refine V_iconst (-1) d_hs_average_28 ?_
      refine V_icmp_eq 81 d_hs_average_29 (by decide) (by omega) (by omega) (fun c29 => ?_) (fun c29 => ?_)
      · skip
        rw [if_pos c29] at hr
        refine V_iinc_2 d_hs_average_81 rfl ?_
        refine V_goto 4 d_hs_average_84 (by decide) ?_
        exact ih _ _ _ _ _ (by omega) (by omega) rfl hr hT
      · skip
        rw [if_neg c29] at hr
        obtain ⟨⟨e8, e9⟩, b8, b9⟩ := hG.pp hF.1 (k := A 11 s 0) (s := s) (by omega) (by omega)
        refine V_aload_0 d_hs_average_32 ?_
        refine V_getR d_hs_average_33 fl_hs_57 is_hs (r_hs_now hg) ?_
        refine V_getR d_hs_average_36 fl_hs_152 (is_gd hg) (r_gd_passes hg) ?_
        refine V_iload_3 d_hs_average_39 ?_
        refine V_aald d_hs_average_40 (is_gd_passes hg) (by omega) (by omega) (r_gd_passesrow hg (by omega)) ?_
        refine V_iload_2 d_hs_average_41 ?_
        refine V_iald d_hs_average_42 (is_gd_passes_row hg (by omega)) (by omega) (by omega) ?_
        rw [e8]
        refine V_istore_4 d_hs_average_43 rfl ?_
        refine V_iload_1 d_hs_average_45 ?_
        refine V_aload_0 d_hs_average_46 ?_
        refine V_getR d_hs_average_47 fl_hs_57 is_hs (r_hs_now hg) ?_
        refine V_iload_3 d_hs_average_50 ?_
        refine V_iload_2 d_hs_average_51 ?_
        refine V_cvI2 d_hs_average_52 ml_hs_252 mv_gd_titheOf (by decide) (Nat.le_of_ble_eq_true rfl) (is_gd hg) (ok_titheOf hg hG hF.1 (by omega) (by omega)) ?_
        rintro _ f2 ⟨rfl, e2⟩
        rw [e2]; clear e2 f2
        refine V_iload_4 d_hs_average_55 ?_
        refine V_imul d_hs_average_57 ?_
        refine V_iadd d_hs_average_58 ?_
        refine V_istore_1 d_hs_average_59 rfl ?_
        refine V_iload_1 d_hs_average_60 ?_
        refine V_aload_0 d_hs_average_61 ?_
        refine V_getR d_hs_average_62 fl_hs_57 is_hs (r_hs_now hg) ?_
        refine V_getR d_hs_average_65 fl_hs_155 (is_gd hg) (r_gd_prices hg) ?_
        refine V_iload_3 d_hs_average_68 ?_
        refine V_aald d_hs_average_69 (is_gd_prices hg) (by omega) (by omega) (r_gd_pricesrow hg (by omega)) ?_
        refine V_iload_2 d_hs_average_70 ?_
        refine V_iald d_hs_average_71 (is_gd_prices_row hg (by omega)) (by omega) (by omega) ?_
        rw [e9]
        refine V_sipush 1000 d_hs_average_72 (by decide) ?_
        refine V_iload_4 d_hs_average_75 ?_
        refine V_isub d_hs_average_77 ?_
        refine V_imul d_hs_average_78 ?_
        refine V_isub d_hs_average_79 ?_
        refine V_istore_1 d_hs_average_80 rfl ?_
        refine V_iinc_2 d_hs_average_81 rfl ?_
        refine V_goto 4 d_hs_average_84 (by decide) ?_
        exact ih _ _ _ _ _ (by omega) (by omega) rfl hr hT
  refine V_iconst 0 d_hs_average_0 ?_
  refine V_istore_1 d_hs_average_1 rfl ?_
  refine V_iconst 0 d_hs_average_2 ?_
  refine V_istore_2 d_hs_average_3 rfl ?_
  exact loop (A 0 4 0).toNat _ _ _ _ _ (by omega) (by decide) rfl rfl rfl
end HS3
