/-! the class: chain, shades, must -/
section HS8
variable {D : q_D} {f f' : q_F} {A : q_As} {g h g1 : Int}
theorem gEq.refl (A : q_As) : gEq A A := ⟨rfl, rfl, rfl, rfl, rfl, rfl, rfl, rfl, rfl, rfl, rfl, rfl⟩
/-- scratch cells alone differ -/
theorem Cst.scr (hS : Cst g f A) (hF : Wf A) (hf : ∀ j k, ¬ (43 ≤ j ∧ j < 50) → f' j k = f j k) : Cst g f' A := by
  obtain ⟨hg, hG, hH, hT⟩ := hS
  have hg2 := q_G51 hg
  refine ⟨hg, hG.mono (gEq.refl A) hF.1 (fun j k a b => hf j k (by omega)), hH.mono rfl rfl rfl rfl (fun j k a b => hf j k (by omega)), ?_⟩
  obtain ⟨c1, c2, c3, c4, c5, c6, c7⟩ := hT
  exact ⟨by rw [hf _ _ (by omega)]; exact c1, fun k a b => by rw [hf _ _ (by omega)]; exact c2 k a b, by rw [hf _ _ (by omega)]; exact c3, by rw [hf _ _ (by omega)]; exact c4, by rw [hf _ _ (by omega)]; exact c5, by rw [hf _ _ (by omega)]; exact c6, fun k a b => by rw [hf _ _ (by omega)]; exact c7 k a b⟩
theorem ok_longestAhead (hg : q_G g) (hG : Cg g f A) (hW : Wg A) (p c d : Int → Bool) {k : Nat} (hk : (k : Int) ≤ A 0 4 0) (hd : ∀ t, 0 ≤ t → t < A 0 4 0 → d t = c t) (ht : ∀ j : Nat, j < k → p (A 16 j 0) = true → f 44 (A 16 j 0) = 1 + ahd A p j (can A (A 16 j 0))) : OkI D m_ch_longestAhead [vr D 43, vr D g, vi (mB (fun t => p t && d t)), vi k] (Zg g1 h) f (fun x f' => x = ahd A p k c ∧ f' = f) := by
  have hn := hW.1
  refine OkI_of (L0 := [vr D 43, vr D g, vi (mB (fun t => p t && d t)), vi k, vu, vu, vu]) mi_ch_longestAhead rfl rfl (Nat.le_of_ble_eq_true rfl) (fun C hR => ?_)
  have loop : ∀ (m j : Nat) (a6 : Value), j + m = k → V D C m_ch_longestAhead 6 [vr D 43, vr D g, vi (mB (fun t => p t && d t)), vi k, vi (ahd A p j c), vi j, a6] [] (Zg g1 h) f := by
    intro m
    induction m with
    | zero =>
      intro j a6 hj
      have e : j = k := by omega
      subst e
      refine V_iload_5 d_ch_longestAhead_6 ?_
      refine V_iload_3 d_ch_longestAhead_8 ?_
      refine V_icmp_ge 51 d_ch_longestAhead_9 (by decide) (by omega) (by omega) (fun c9 => ?_) (fun c9 => by omega)
      refine V_iload_4 d_ch_longestAhead_51 ?_
      refine V_ireturn d_ch_longestAhead_53 (hR _ _ ?_)
      exact ⟨rfl, rfl⟩
    | succ m ih =>
      intro j a6 hj
      have ek := hG.ord (i := (j : Int)) (by omega) (by omega)
      have bk := hW.o1 (i := (j : Int)) (by omega) (by omega)
      have hdj := hd _ bk.1 bk.2
      have r1 := ahd_rg (A := A) p j c
      have r2 := ahd_rg (A := A) p j (can A (A 16 j 0))
      refine V_iload_5 d_ch_longestAhead_6 ?_
      refine V_iload_3 d_ch_longestAhead_8 ?_
      refine V_icmp_ge 51 d_ch_longestAhead_9 (by decide) (by omega) (by omega) (fun c9 => by omega) (fun c9 => ?_)
      refine V_aload_1 d_ch_longestAhead_12 ?_
      refine V_getR d_ch_longestAhead_13 fl_ch_20 (is_gd hg) (r_gd_byHour hg) ?_
      refine V_iload_5 d_ch_longestAhead_16 ?_
      refine V_iald d_ch_longestAhead_18 (is_gd_byHour hg) (by omega) (by omega) ?_
      rw [ek]
      refine V_istore_6 d_ch_longestAhead_19 rfl ?_
      refine V_iload_2 d_ch_longestAhead_21 ?_
      refine V_iload_6 d_ch_longestAhead_22 ?_
      refine V_ishr d_ch_longestAhead_24 ?_
      refine V_iconst 1 d_ch_longestAhead_25 ?_
      refine V_iand d_ch_longestAhead_26 ?_
      refine V_iconst 1 d_ch_longestAhead_27 ?_
      refine V_icmp_ne 45 d_ch_longestAhead_28 (by decide) (mB_shrrg _ _) (by decide) (fun c28 => ?_) (fun c28 => ?_)
      · skip
        rw [mB_ib0 _ (by omega)] at c28
        have e : ahd A p (j + 1) c = ahd A p j c := by rw [ahd_succ, ← hdj, c28]; rfl
        refine V_iinc_5 d_ch_longestAhead_45 rfl ?_
        refine V_goto 6 d_ch_longestAhead_48 (by decide) ?_
        rw [← e]
        exact ih (j + 1) _ (by omega)
      · skip
        rw [mB_ib _ (by omega)] at c28
        have hpj : p (A 16 j 0) = true := by rw [Bool.and_eq_true] at c28; exact c28.1
        have e : ahd A p (j + 1) c = max (ahd A p j c) (1 + ahd A p j (can A (A 16 j 0))) := by rw [ahd_succ, ← hdj, c28]; rfl
        refine V_iload_4 d_ch_longestAhead_31 ?_
        refine V_aload_0 d_ch_longestAhead_33 ?_
        refine V_getR d_ch_longestAhead_34 fl_ch_9 is_ch r_ch_lengthTo ?_
        refine V_iload_6 d_ch_longestAhead_37 ?_
        refine V_iald d_ch_longestAhead_39 is_ch_lengthTo (by omega) (by omega) ?_
        rw [ht j (by omega) hpj]
        refine V_csI2 d_ch_longestAhead_40 ml_ch_30 ms_jm_max (by decide) (Nat.le_of_ble_eq_true rfl) (ok_max (by omega) (by omega)) ?_
        rintro _ f2 ⟨rfl, e2⟩
        rw [e2]; clear e2 f2
        rw [← e]
        refine V_istore_4 d_ch_longestAhead_43 rfl ?_
        refine V_iinc_5 d_ch_longestAhead_45 rfl ?_
        refine V_goto 6 d_ch_longestAhead_48 (by decide) ?_
        exact ih (j + 1) _ (by omega)
  refine V_iconst 0 d_ch_longestAhead_0 ?_
  refine V_istore_4 d_ch_longestAhead_1 rfl ?_
  refine V_iconst 0 d_ch_longestAhead_3 ?_
  refine V_istore_5 d_ch_longestAhead_4 rfl ?_
  exact loop k 0 _ (by omega)
theorem ok_longest (hg : q_G g) (hG : Cg g f A) (hW : Wg A) (p : Int → Bool) : OkI D m_ch_longest [vr D 43, vr D g, vi (mB p)] (Zg g1 h) f (fun x f' => x = lng A p ∧ ∀ j k, ¬ j = 44 → f' j k = f j k) := by
  have hn := hW.1
  have hg2 := q_G51 hg
  refine OkI_of (L0 := [vr D 43, vr D g, vi (mB p), vu, vu, vu]) mi_ch_longest rfl rfl (Nat.le_of_ble_eq_true rfl) (fun C hR => ?_)
  have loop : ∀ (m k : Nat) (a5 : Value) (F : q_F), ((k + m : Nat) : Int) = A 0 4 0 → (∀ j i, ¬ j = 44 → F j i = f j i) → (∀ j : Nat, j < k → p (A 16 j 0) = true → F 44 (A 16 j 0) = 1 + ahd A p j (can A (A 16 j 0))) → V D C m_ch_longest 5 [vr D 43, vr D g, vi (mB p), vi (ahd A p k (fun _ => true)), vi k, a5] [] (Zg g1 h) F := by
    intro m
    induction m with
    | zero =>
      intro k a5 F hk hf ht
      have e4 : F (g + 1) 4 = A 0 4 0 := by rw [hf _ _ (by omega)]; exact hG.c4
      refine V_iload_4 d_ch_longest_5 ?_
      refine V_aload_1 d_ch_longest_7 ?_
      refine V_getR d_ch_longest_8 fl_ch_15 (is_gd hg) (r_gd_counts hg) ?_
      refine V_iconst 4 d_ch_longest_11 ?_
      refine V_iald d_ch_longest_12 (is_gd_counts hg) (by omega) (by omega) ?_
      rw [e4]
      refine V_icmp_ge 78 d_ch_longest_13 (by decide) (by omega) (by omega) (fun c13 => ?_) (fun c13 => by omega)
      refine V_iload_3 d_ch_longest_78 ?_
      refine V_ireturn d_ch_longest_79 (hR _ _ ?_)
      refine ⟨?_, hf⟩
      unfold lng; rw [show (A 0 4 0).toNat = k by omega]
    | succ m ih =>
      intro k a5 F hk hf ht
      have hGF : Cg g F A := hG.mono (gEq.refl A) hW (fun j i a b => hf j i (by omega))
      have e4 := hGF.c4
      have ek := hGF.ord (i := (k : Int)) (by omega) (by omega)
      have bk := hW.o1 (i := (k : Int)) (by omega) (by omega)
      have em := hGF.mt bk.1 bk.2
      have r1 := ahd_rg (A := A) p k (fun _ => true)
      have r2 := ahd_rg (A := A) p k (can A (A 16 k 0))
      refine V_iload_4 d_ch_longest_5 ?_
      refine V_aload_1 d_ch_longest_7 ?_
      refine V_getR d_ch_longest_8 fl_ch_15 (is_gd hg) (r_gd_counts hg) ?_
      refine V_iconst 4 d_ch_longest_11 ?_
      refine V_iald d_ch_longest_12 (is_gd_counts hg) (by omega) (by omega) ?_
      rw [e4]
      refine V_icmp_ge 78 d_ch_longest_13 (by decide) (by omega) (by omega) (fun c13 => by omega) (fun c13 => ?_)
      refine V_aload_1 d_ch_longest_16 ?_
      refine V_getR d_ch_longest_17 fl_ch_20 (is_gd hg) (r_gd_byHour hg) ?_
      refine V_iload_4 d_ch_longest_20 ?_
      refine V_iald d_ch_longest_22 (is_gd_byHour hg) (by omega) (by omega) ?_
      rw [ek]
      refine V_istore_5 d_ch_longest_23 rfl ?_
      refine V_iload_2 d_ch_longest_25 ?_
      refine V_iload_5 d_ch_longest_26 ?_
      refine V_ishr d_ch_longest_28 ?_
      refine V_iconst 1 d_ch_longest_29 ?_
      refine V_iand d_ch_longest_30 ?_
      refine V_iconst 1 d_ch_longest_31 ?_
      refine V_icmp_ne 72 d_ch_longest_32 (by decide) (mB_shrrg _ _) (by decide) (fun c32 => ?_) (fun c32 => ?_)
      · skip
        rw [mB_ib0 _ (by omega)] at c32
        have e : ahd A p (k + 1) (fun _ => true) = ahd A p k (fun _ => true) := by rw [ahd_succ, c32]; rfl
        refine V_iinc_4 d_ch_longest_72 rfl ?_
        refine V_goto 5 d_ch_longest_75 (by decide) ?_
        rw [← e]
        refine ih (k + 1) _ F (by omega) hf (fun j hj hpj => ?_)
        by_cases e2 : j = k
        · rw [e2, c32] at hpj; cases hpj
        · exact ht j (by omega) hpj
      · skip
        rw [mB_ib _ (by omega)] at c32
        have e : ahd A p (k + 1) (fun _ => true) = max (ahd A p k (fun _ => true)) (1 + ahd A p k (can A (A 16 k 0))) := by rw [ahd_succ, c32]; rfl
        refine V_aload_0 d_ch_longest_35 ?_
        refine V_getR d_ch_longest_36 fl_ch_9 is_ch r_ch_lengthTo ?_
        refine V_iload_5 d_ch_longest_39 ?_
        refine V_iconst 1 d_ch_longest_41 ?_
        refine V_aload_0 d_ch_longest_42 ?_
        refine V_aload_1 d_ch_longest_43 ?_
        refine V_iload_2 d_ch_longest_44 ?_
        refine V_aload_1 d_ch_longest_45 ?_
        refine V_getR d_ch_longest_46 fl_ch_23 (is_gd hg) (r_gd_meets hg) ?_
        refine V_iload_5 d_ch_longest_49 ?_
        refine V_iald d_ch_longest_51 (is_gd_meets hg) (by omega) (by omega) ?_
        rw [em]
        refine V_iand d_ch_longest_52 ?_
        rw [mB_and]
        refine V_iload_4 d_ch_longest_53 ?_
        refine V_cvI3 d_ch_longest_55 ml_ch_26 mv_ch_longestAhead (by decide) (Nat.le_of_ble_eq_true rfl) is_ch (ok_longestAhead hg hGF hW p (can A (A 16 k 0)) _ (by omega) (fun t t0 t1 => by rw [decide_eq_true t1]; rfl) ht) ?_
        rintro _ f2 ⟨rfl, e2⟩
        rw [e2]; clear e2 f2
        refine V_iadd d_ch_longest_58 ?_
        refine V_iast d_ch_longest_59 is_ch_lengthTo (by omega) (by omega) ?_
        refine V_iload_3 d_ch_longest_60 ?_
        refine V_aload_0 d_ch_longest_61 ?_
        refine V_getR d_ch_longest_62 fl_ch_9 is_ch r_ch_lengthTo ?_
        refine V_iload_5 d_ch_longest_65 ?_
        refine V_iald d_ch_longest_67 is_ch_lengthTo (by omega) (by omega) ?_
        rw [q_up_eq]
        refine V_csI2 d_ch_longest_68 ml_ch_30 ms_jm_max (by decide) (Nat.le_of_ble_eq_true rfl) (ok_max (by omega) (by omega)) ?_
        rintro _ f2 ⟨rfl, e2⟩
        rw [e2]; clear e2 f2
        rw [← e]
        refine V_istore_3 d_ch_longest_71 rfl ?_
        refine V_iinc_4 d_ch_longest_72 rfl ?_
        refine V_goto 5 d_ch_longest_75 (by decide) ?_
        refine ih (k + 1) _ _ (by omega) (fun j i hj => by rw [q_up_at hj]; exact hf j i hj) (fun j hj hpj => ?_)
        by_cases e2 : j = k
        · rw [e2, q_up_eq]
        · rw [q_up_ne (Or.inr (fun e3 => e2 (ord_inj hW (by omega) (by omega) e3)))]; exact ht j (by omega) hpj
  refine V_iconst 0 d_ch_longest_0 ?_
  refine V_istore_3 d_ch_longest_1 rfl ?_
  refine V_iconst 0 d_ch_longest_2 ?_
  refine V_istore_4 d_ch_longest_3 rfl ?_
  exact loop (A 0 4 0).toNat 0 _ f (by omega) (fun _ _ _ => rfl) (fun j hj => by omega)
theorem andc {p : Int → Bool} (hp : ∀ t, p t = true → t < A 0 4 0) (c : Int → Bool) : (fun t => p t && (decide (t < A 0 4 0) && c t)) = (fun t => p t && c t) := by
  funext t
  cases h : p t
  · rfl
  · rw [decide_eq_true (hp t h)]; rfl
theorem ok_firstLongest (hg : q_G g) (hG : Cg g f A) (hW : Wg A) (p : Int → Bool) (hp : ∀ t, p t = true → t < A 0 4 0) : OkI D m_ch_firstLongest [vr D 43, vr D g, vi (mB p)] (Zg g1 h) f (fun x f' => x = mB (flg A p) ∧ ∀ j k, ¬ j = 44 → f' j k = f j k) := by
  have hn := hW.1
  have hg2 := q_G51 hg
  have rl := lng_rg hW p
  refine OkI_of (L0 := [vr D 43, vr D g, vi (mB p), vu, vu, vu, vu, vu]) mi_ch_firstLongest rfl rfl (Nat.le_of_ble_eq_true rfl) (fun C hR => ?_)
  have loop : ∀ (m : Nat) (i : Int) (q : Int → Bool) (a6 a7 : Value) (F : q_F), i + m = A 0 4 0 → 0 ≤ i → (∀ t, q t = true → t < A 0 4 0) → flN A (lng A p) m i q = flg A p → (∀ j k, ¬ j = 44 → F j k = f j k) → a6.category = 1 → V D C m_ch_firstLongest 13 [vr D 43, vr D g, vi (mB p), vi (lng A p), vi (mB q), vi i, a6, a7] [] (Zg g1 h) F := by
    intro m
    induction m with
    | zero =>
      intro i q a6 a7 F hm h0 hq hr hf h6
      have hGF : Cg g F A := hG.mono (gEq.refl A) hW (fun j i a b => hf j i (by omega))
      have e4 := hGF.c4
      unfold flN at hr
      refine V_iload_5 d_ch_firstLongest_13 ?_
      refine V_aload_1 d_ch_firstLongest_15 ?_
      refine V_getR d_ch_firstLongest_16 fl_ch_15 (is_gd hg) (r_gd_counts hg) ?_
      refine V_iconst 4 d_ch_firstLongest_19 ?_
      refine V_iald d_ch_firstLongest_20 (is_gd_counts hg) (by omega) (by omega) ?_
      rw [e4]
      refine V_icmp_ge 92 d_ch_firstLongest_21 (by decide) (by omega) (by omega) (fun c21 => ?_) (fun c21 => by omega)
      refine V_iload_4 d_ch_firstLongest_92 ?_
      refine V_ireturn d_ch_firstLongest_94 (hR _ _ ?_)
      exact ⟨by rw [hr], hf⟩
    | succ m ih =>
      intro i q a6 a7 F hm h0 hq hr hf h6
      have hGF : Cg g F A := hG.mono (gEq.refl A) hW (fun j i a b => hf j i (by omega))
      have e4 := hGF.c4
      have em := hGF.mt h0 (by omega)
      have r2 := lng_rg hW (fun t => q t && can A i t)
      unfold flN at hr
      refine V_iload_5 d_ch_firstLongest_13 ?_
      refine V_aload_1 d_ch_firstLongest_15 ?_
      refine V_getR d_ch_firstLongest_16 fl_ch_15 (is_gd hg) (r_gd_counts hg) ?_
      refine V_iconst 4 d_ch_firstLongest_19 ?_
      refine V_iald d_ch_firstLongest_20 (is_gd_counts hg) (by omega) (by omega) ?_
      rw [e4]
      refine V_icmp_ge 92 d_ch_firstLongest_21 (by decide) (by omega) (by omega) (fun c21 => by omega) (fun c21 => ?_)
      refine V_iload_4 d_ch_firstLongest_24 ?_
      refine V_iload_5 d_ch_firstLongest_26 ?_
      refine V_ishr d_ch_firstLongest_28 ?_
      refine V_iconst 1 d_ch_firstLongest_29 ?_
      refine V_iand d_ch_firstLongest_30 ?_
      refine V_iconst 1 d_ch_firstLongest_31 ?_
      refine V_icmp_ne 86 d_ch_firstLongest_32 (by decide) (mB_shrrg _ _) (by decide) (fun c32 => ?_) (fun c32 => ?_)
      · skip
        rw [mB_ib0 _ (by omega)] at c32
        rw [c32, if_neg (by decide)] at hr
        refine V_iinc_5 d_ch_firstLongest_86 rfl ?_
        refine V_goto 13 d_ch_firstLongest_89 (by decide) ?_
        exact ih _ _ _ _ _ (by omega) (by omega) hq hr hf h6
      · skip
        rw [mB_ib _ (by omega)] at c32
        rw [c32, if_pos rfl] at hr
        refine V_iload_4 d_ch_firstLongest_35 ?_
        refine V_aload_1 d_ch_firstLongest_37 ?_
        refine V_getR d_ch_firstLongest_38 fl_ch_23 (is_gd hg) (r_gd_meets hg) ?_
        refine V_iload_5 d_ch_firstLongest_41 ?_
        refine V_iald d_ch_firstLongest_43 (is_gd_meets hg) (by omega) (by omega) ?_
        rw [em]
        refine V_iand d_ch_firstLongest_44 ?_
        rw [mB_and, andc hq]
        refine V_istore_6 d_ch_firstLongest_45 rfl ?_
        refine V_aload_0 d_ch_firstLongest_47 ?_
        refine V_aload_1 d_ch_firstLongest_48 ?_
        refine V_iload_6 d_ch_firstLongest_49 ?_
        refine V_cvI2 d_ch_firstLongest_51 ml_ch_36 mv_ch_longest (by decide) (Nat.le_of_ble_eq_true rfl) is_ch (ok_longest hg hGF hW _) ?_
        rintro _ F' ⟨rfl, hf'⟩
        refine V_iload_3 d_ch_firstLongest_54 ?_
        refine V_icmp_ne 62 d_ch_firstLongest_55 (by decide) (by omega) (by omega) (fun c55 => ?_) (fun c55 => ?_)
        · skip
          rw [if_neg c55] at hr
          refine V_iconst 0 d_ch_firstLongest_62 ?_
          refine V_istore_7 d_ch_firstLongest_63 rfl ?_
          refine V_iload_7 d_ch_firstLongest_65 ?_
          refine V_if_eq 75 d_ch_firstLongest_67 (by decide) (by omega) (fun c67 => ?_) (fun c67 => by omega)
          refine V_iload_4 d_ch_firstLongest_75 ?_
          refine V_iconst 1 d_ch_firstLongest_77 ?_
          refine V_iload_5 d_ch_firstLongest_78 ?_
          refine V_ishl d_ch_firstLongest_80 ?_
          refine V_iconst (-1) d_ch_firstLongest_81 ?_
          refine V_ixor d_ch_firstLongest_82 ?_
          refine V_iand d_ch_firstLongest_83 ?_
          rw [mB_one (by omega), mB_andn]
          refine V_istore_4 d_ch_firstLongest_84 rfl ?_
          refine V_iinc_5 d_ch_firstLongest_86 rfl ?_
          refine V_goto 13 d_ch_firstLongest_89 (by decide) ?_
          exact ih _ (less q i) _ _ _ (by omega) (by omega) (fun t ht => hq t (by unfold less at ht; rw [Bool.and_eq_true] at ht; exact ht.1)) hr (fun j k hj => by rw [hf' j k hj]; exact hf j k hj) rfl
        · skip
          rw [if_pos (by omega)] at hr
          refine V_iconst 1 d_ch_firstLongest_58 ?_
          refine V_goto 63 d_ch_firstLongest_59 (by decide) ?_
          refine V_istore_7 d_ch_firstLongest_63 rfl ?_
          refine V_iload_7 d_ch_firstLongest_65 ?_
          refine V_if_eq 75 d_ch_firstLongest_67 (by decide) (by omega) (fun c67 => by omega) (fun c67 => ?_)
          refine V_iload_6 d_ch_firstLongest_70 ?_
          refine V_goto 84 d_ch_firstLongest_72 (by decide) ?_
          refine V_istore_4 d_ch_firstLongest_84 rfl ?_
          refine V_iinc_5 d_ch_firstLongest_86 rfl ?_
          refine V_goto 13 d_ch_firstLongest_89 (by decide) ?_
          exact ih _ _ _ _ _ (by omega) (by omega) (fun t ht => hq t (by rw [Bool.and_eq_true] at ht; exact ht.1)) hr (fun j k hj => by rw [hf' j k hj]; exact hf j k hj) rfl
  refine V_aload_0 d_ch_firstLongest_0 ?_
  refine V_aload_1 d_ch_firstLongest_1 ?_
  refine V_iload_2 d_ch_firstLongest_2 ?_
  refine V_cvI2 d_ch_firstLongest_3 ml_ch_36 mv_ch_longest (by decide) (Nat.le_of_ble_eq_true rfl) is_ch (ok_longest hg hG hW p) ?_
  rintro _ F ⟨rfl, hf⟩
  refine V_istore_3 d_ch_firstLongest_6 rfl ?_
  refine V_iload_2 d_ch_firstLongest_7 ?_
  refine V_istore_4 d_ch_firstLongest_8 rfl ?_
  refine V_iconst 0 d_ch_firstLongest_10 ?_
  refine V_istore_5 d_ch_firstLongest_11 rfl ?_
  exact loop (A 0 4 0).toNat _ p _ _ F (by omega) (by decide) hp rfl hf rfl
theorem own_hi {p t : Int} (h : own A p t = true) : t < A 0 4 0 := by
  unfold own isOf held at h; simp at h; omega
theorem hs_chain (hS : Cst g f A) (hF : Wf A) {p k : Int} (hp : -2147483648 ≤ p ∧ p < 2147483648) (hk : -2147483648 ≤ k ∧ k < 2147483648) : OkI D m_hs_chain [vr D 0, vi p, vi k] (Zg g h) f (fun x f' => x = S_chain A p k ∧ ∀ j k, ¬ j = 44 → f' j k = f j k) := by
  have hn := hF.nn
  have hS' := hS
  obtain ⟨hg, hG, hH, hT⟩ := hS'
  refine OkI_of (L0 := [vr D 0, vi p, vi k, vu]) mi_hs_chain rfl rfl (Nat.le_of_ble_eq_true rfl) (fun C hR => ?_)
  refine V_aload_0 d_hs_chain_0 ?_
  refine V_getR d_hs_chain_1 fl_hs_57 is_hs (r_hs_now hg) ?_
  refine V_iconst 1 d_hs_chain_4 ?_
  refine V_iload_1 d_hs_chain_5 ?_
  refine V_cvI2 d_hs_chain_6 ml_hs_112 mv_gd_isThere (by decide) (Nat.le_of_ble_eq_true rfl) (is_gd hg) (ok_isThere hg hG hF.1 (by omega) (by omega)) ?_
  rintro x6 f2 ⟨hx6, e2⟩
  rw [e2]; clear e2 f2
  refine V_if_ne 14 d_hs_chain_9 (by decide) (by omega) (fun c9 => ?_) (fun c9 => ?_)
  · skip
    refine V_aload_0 d_hs_chain_14 ?_
    refine V_iload_1 d_hs_chain_15 ?_
    refine V_cvI1 d_hs_chain_16 ml_hs_165 mv_hs_unhiredOf (by decide) (Nat.le_of_ble_eq_true rfl) is_hs (ok_unhiredOf hS hF hp) ?_
    rintro _ f2 ⟨rfl, e2⟩
    rw [e2]; clear e2 f2
    refine V_istore_3 d_hs_chain_19 rfl ?_
    refine V_iload_2 d_hs_chain_20 ?_
    refine V_iconst (-1) d_hs_chain_21 ?_
    refine V_icmp_ne 38 d_hs_chain_22 (by decide) (by omega) (by omega) (fun c22 => ?_) (fun c22 => ?_)
    · skip
      refine V_aload_0 d_hs_chain_38 ?_
      refine V_getR d_hs_chain_39 fl_hs_35 is_hs r_hs_chains ?_
      refine V_aload_0 d_hs_chain_42 ?_
      refine V_getR d_hs_chain_43 fl_hs_57 is_hs (r_hs_now hg) ?_
      refine V_iload_3 d_hs_chain_46 ?_
      refine V_cvI2 d_hs_chain_47 ml_hs_178 mv_ch_firstLongest (by decide) (Nat.le_of_ble_eq_true rfl) is_ch (ok_firstLongest hg hG hF.1 _ (fun t ht => own_hi ht)) ?_
      rintro _ F ⟨rfl, hf⟩
      refine V_iload_2 d_hs_chain_50 ?_
      refine V_csI2 d_hs_chain_51 ml_hs_181 ms_hs_nthOf (by decide) (Nat.le_of_ble_eq_true rfl) (ok_nthOf hk) ?_
      rintro _ f2 ⟨rfl, e2⟩
      rw [e2]; clear e2 f2
      refine V_ireturn d_hs_chain_54 (hR _ _ ?_)
      refine ⟨?_, hf⟩
      unfold S_chain; rw [if_pos (by omega), if_neg (by omega)]
    · skip
      refine V_aload_0 d_hs_chain_25 ?_
      refine V_getR d_hs_chain_26 fl_hs_35 is_hs r_hs_chains ?_
      refine V_aload_0 d_hs_chain_29 ?_
      refine V_getR d_hs_chain_30 fl_hs_57 is_hs (r_hs_now hg) ?_
      refine V_iload_3 d_hs_chain_33 ?_
      refine V_cvI2 d_hs_chain_34 ml_hs_174 mv_ch_longest (by decide) (Nat.le_of_ble_eq_true rfl) is_ch (ok_longest hg hG hF.1 _) ?_
      rintro _ F ⟨rfl, hf⟩
      refine V_ireturn d_hs_chain_37 (hR _ _ ?_)
      refine ⟨?_, hf⟩
      unfold S_chain; rw [if_pos (by omega), if_pos (by omega)]
  · skip
    refine V_iconst (-1) d_hs_chain_12 ?_
    refine V_ireturn d_hs_chain_13 (hR _ _ ?_)
    refine ⟨?_, fun _ _ _ => rfl⟩
    unfold S_chain; rw [if_neg (by omega)]
theorem few_rg (hF : Wf A) (p : Int) : 0 ≤ few A p ∧ few A p ≤ 31 := by
  have h1 := cnt_rg (own A p)
  have h2 := lng_rg hF.1 (own A p)
  have h3 : lng A (own A p) ≤ cnt (own A p) := by
    obtain ⟨q, q1, q2, q3⟩ := lng_ex hF.1 (own A p)
    have := cnt_le (p := q) (q := own A p) (fun t _ _ ht => (q2 t ht).1)
    omega
  unfold few; omega
theorem ok_fewestShades (hS : Cst g f A) (hF : Wf A) {p : Int} (hp : -2147483648 ≤ p ∧ p < 2147483648) : OkI D m_hs_fewestShades [vr D 0, vi p] (Zg g h) f (fun x f' => x = few A p ∧ ∀ j k, ¬ j = 44 → f' j k = f j k) := by
  have hS' := hS
  obtain ⟨hg, hG, hH, hT⟩ := hS'
  refine OkI_of (L0 := [vr D 0, vi p, vu]) mi_hs_fewestShades rfl rfl (Nat.le_of_ble_eq_true rfl) (fun C hR => ?_)
  refine V_aload_0 d_hs_fewestShades_0 ?_
  refine V_iload_1 d_hs_fewestShades_1 ?_
  refine V_cvI1 d_hs_fewestShades_2 ml_hs_165 mv_hs_unhiredOf (by decide) (Nat.le_of_ble_eq_true rfl) is_hs (ok_unhiredOf hS hF hp) ?_
  rintro _ f2 ⟨rfl, e2⟩
  rw [e2]; clear e2 f2
  refine V_istore_2 d_hs_fewestShades_5 rfl ?_
  refine V_iload_2 d_hs_fewestShades_6 ?_
  refine V_csI1 d_hs_fewestShades_7 ml_hs_103 ms_ji_bitCount (by decide) (Nat.le_of_ble_eq_true rfl) (ok_bitCount) ?_
  rintro _ f2 ⟨rfl, e2⟩
  rw [e2]; clear e2 f2
  refine V_aload_0 d_hs_fewestShades_10 ?_
  refine V_getR d_hs_fewestShades_11 fl_hs_35 is_hs r_hs_chains ?_
  refine V_aload_0 d_hs_fewestShades_14 ?_
  refine V_getR d_hs_fewestShades_15 fl_hs_57 is_hs (r_hs_now hg) ?_
  refine V_iload_2 d_hs_fewestShades_18 ?_
  refine V_cvI2 d_hs_fewestShades_19 ml_hs_174 mv_ch_longest (by decide) (Nat.le_of_ble_eq_true rfl) is_ch (ok_longest hg hG hF.1 _) ?_
  rintro _ F ⟨rfl, hf⟩
  refine V_isub d_hs_fewestShades_22 ?_
  refine V_ireturn d_hs_fewestShades_23 (hR _ _ ?_)
  exact ⟨rfl, hf⟩
theorem hs_shades (hS : Cst g f A) (hF : Wf A) {p : Int} (hp : -2147483648 ≤ p ∧ p < 2147483648) : OkI D m_hs_shades [vr D 0, vi p] (Zg g h) f (fun x f' => x = S_shades A p ∧ ∀ j k, ¬ j = 44 → f' j k = f j k) := by
  have hn := hF.nn
  have hS' := hS
  obtain ⟨hg, hG, hH, hT⟩ := hS'
  have hg2 := q_G51 hg
  refine OkI_of (L0 := [vr D 0, vi p, vu, vu]) mi_hs_shades rfl rfl (Nat.le_of_ble_eq_true rfl) (fun C hR => ?_)
  have loop : ∀ (m : Nat) (i a T : Int) (F : q_F), p = -1 → i + m = A 0 1 0 → 0 ≤ i → fwN A m i a = T → T = S_shades A p → (∀ j k, ¬ j = 44 → F j k = f j k) → V D C m_hs_shades 9 [vr D 0, vi p, vi a, vi i] [] (Zg g h) F := by
    intro m
    induction m with
    | zero =>
      intro i a T F hv hm h0 hr hT hf
      have e1 : F (g + 1) 1 = A 0 1 0 := by rw [hf _ _ (by omega)]; exact hG.1 1 (by decide) (by decide)
      unfold fwN at hr
      refine V_iload_3 d_hs_shades_9 ?_
      refine V_aload_0 d_hs_shades_10 ?_
      refine V_getR d_hs_shades_11 fl_hs_57 is_hs (r_hs_now hg) ?_
      refine V_getR d_hs_shades_14 fl_hs_90 (is_gd hg) (r_gd_counts hg) ?_
      refine V_iconst 1 d_hs_shades_17 ?_
      refine V_iald d_hs_shades_18 (is_gd_counts hg) (by omega) (by omega) ?_
      rw [e1]
      refine V_icmp_ge 36 d_hs_shades_19 (by decide) (by omega) (by omega) (fun c19 => ?_) (fun c19 => by omega)
      refine V_iload_2 d_hs_shades_36 ?_
      refine V_ireturn d_hs_shades_37 (hR _ _ ?_)
      exact ⟨by rw [← hT]; exact hr, hf⟩
    | succ m ih =>
      intro i a T F hv hm h0 hr hT hf
      have e1 : F (g + 1) 1 = A 0 1 0 := by rw [hf _ _ (by omega)]; exact hG.1 1 (by decide) (by decide)
      have hSF : Cst g F A := hS.scr hF (fun j k hj => hf j k (by omega))
      unfold fwN at hr
      refine V_iload_3 d_hs_shades_9 ?_
      refine V_aload_0 d_hs_shades_10 ?_
      refine V_getR d_hs_shades_11 fl_hs_57 is_hs (r_hs_now hg) ?_
      refine V_getR d_hs_shades_14 fl_hs_90 (is_gd hg) (r_gd_counts hg) ?_
      refine V_iconst 1 d_hs_shades_17 ?_
      refine V_iald d_hs_shades_18 (is_gd_counts hg) (by omega) (by omega) ?_
      rw [e1]
      refine V_icmp_ge 36 d_hs_shades_19 (by decide) (by omega) (by omega) (fun c19 => by omega) (fun c19 => ?_)
      refine V_iload_2 d_hs_shades_22 ?_
      refine V_aload_0 d_hs_shades_23 ?_
      refine V_iload_3 d_hs_shades_24 ?_
      refine V_cvI1 d_hs_shades_25 ml_hs_184 mv_hs_fewestShades (by decide) (Nat.le_of_ble_eq_true rfl) is_hs (ok_fewestShades hSF hF (by omega)) ?_
      rintro _ F' ⟨rfl, hf'⟩
      refine V_iadd d_hs_shades_28 ?_
      refine V_istore_2 d_hs_shades_29 rfl ?_
      refine V_iinc_3 d_hs_shades_30 rfl ?_
      refine V_goto 9 d_hs_shades_33 (by decide) ?_
      exact ih _ _ _ _ hv (by omega) (by omega) hr hT (fun j k hj => by rw [hf' j k hj]; exact hf j k hj)
  refine V_iload_1 d_hs_shades_0 ?_
  refine V_iconst (-1) d_hs_shades_1 ?_
  refine V_icmp_ne 38 d_hs_shades_2 (by decide) (by omega) (by omega) (fun c2 => ?_) (fun c2 => ?_)
  · skip
    refine V_aload_0 d_hs_shades_38 ?_
    refine V_getR d_hs_shades_39 fl_hs_57 is_hs (r_hs_now hg) ?_
    refine V_iconst 1 d_hs_shades_42 ?_
    refine V_iload_1 d_hs_shades_43 ?_
    refine V_cvI2 d_hs_shades_44 ml_hs_112 mv_gd_isThere (by decide) (Nat.le_of_ble_eq_true rfl) (is_gd hg) (ok_isThere hg hG hF.1 (by omega) (by omega)) ?_
    rintro x44 f2 ⟨hx44, e2⟩
    rw [e2]; clear e2 f2
    refine V_if_eq 58 d_hs_shades_47 (by decide) (by omega) (fun c47 => ?_) (fun c47 => ?_)
    · skip
      refine V_iconst (-1) d_hs_shades_58 ?_
      refine V_ireturn d_hs_shades_59 (hR _ _ ?_)
      refine ⟨?_, fun _ _ _ => rfl⟩
      unfold S_shades; rw [if_neg c2, if_neg (by omega)]
    · skip
      refine V_aload_0 d_hs_shades_50 ?_
      refine V_iload_1 d_hs_shades_51 ?_
      refine V_cvI1 d_hs_shades_52 ml_hs_184 mv_hs_fewestShades (by decide) (Nat.le_of_ble_eq_true rfl) is_hs (ok_fewestShades hS hF hp) ?_
      rintro _ F ⟨rfl, hf⟩
      refine V_goto 59 d_hs_shades_55 (by decide) ?_
      refine V_ireturn d_hs_shades_59 (hR _ _ ?_)
      refine ⟨?_, hf⟩
      unfold S_shades; rw [if_neg c2, if_pos (by omega)]
  · skip
    refine V_iconst 0 d_hs_shades_5 ?_
    refine V_istore_2 d_hs_shades_6 rfl ?_
    refine V_iconst 0 d_hs_shades_7 ?_
    refine V_istore_3 d_hs_shades_8 rfl ?_
    refine loop (A 0 1 0).toNat _ _ _ f (by omega) (by omega) (by decide) rfl ?_ (fun _ _ _ => rfl)
    unfold S_shades; rw [if_pos (by omega)]
theorem hs_must (hS : Cst g f A) (hF : Wf A) {s : Int} (hs : -2147483648 ≤ s ∧ s < 2147483648) : OkI D m_hs_must [vr D 0, vi s] (Zg g h) f (fun x f' => x = S_must A s ∧ ∀ j k, ¬ j = 44 → f' j k = f j k) := by
  have hn := hF.nn
  have hS' := hS
  obtain ⟨hg, hG, hH, hT⟩ := hS'
  have hg2 := q_G51 hg
  have r1 := lng_rg hF.1 (own A (A 7 s 0))
  have r2 := lng_rg hF.1 (fun t => own A (A 7 s 0) t && can A s t)
  have r3 := lng_rg hF.1 (less (own A (A 7 s 0)) s)
  refine OkI_of (L0 := [vr D 0, vi s, vu, vu]) mi_hs_must rfl rfl (Nat.le_of_ble_eq_true rfl) (fun C hR => ?_)
  refine V_aload_0 d_hs_must_0 ?_
  refine V_iload_1 d_hs_must_1 ?_
  refine V_cvI1 d_hs_must_2 ml_hs_136 mv_hs_isSighting (by decide) (Nat.le_of_ble_eq_true rfl) is_hs (ok_isSighting hS hF hs) ?_
  rintro x2 f2 ⟨hx2, e2⟩
  rw [e2]; clear e2 f2
  refine V_if_eq 21 d_hs_must_5 (by decide) (by omega) (fun c5 => ?_) (fun c5 => ?_)
  · skip
    refine V_iconst (-1) d_hs_must_21 ?_
    refine V_ireturn d_hs_must_22 (hR _ _ ?_)
    refine ⟨?_, fun _ _ _ => rfl⟩
    unfold S_must; rw [if_neg (by omega)]
  · skip
    have e11 := hH.at hF.2.1 (s := s) (by omega) (by omega)
    obtain ⟨⟨e0, -⟩, b0, -⟩ := hG.sg hF.1 (s := s) (by omega) (by omega)
    refine V_aload_0 d_hs_must_8 ?_
    refine V_getR d_hs_must_9 fl_hs_28 is_hs r_hs_hires ?_
    refine V_getR d_hs_must_12 fl_hs_143 is_hi r_hi_shadeOf ?_
    refine V_iload_1 d_hs_must_15 ?_
    refine V_iald d_hs_must_16 is_hi_shadeOf (by omega) (by omega) ?_
    rw [e11.1]
    refine V_iconst (-1) d_hs_must_17 ?_
    refine V_icmp_eq 23 d_hs_must_18 (by decide) (by omega) (by omega) (fun c18 => ?_) (fun c18 => ?_)
    · skip
      refine V_aload_0 d_hs_must_23 ?_
      refine V_aload_0 d_hs_must_24 ?_
      refine V_getR d_hs_must_25 fl_hs_57 is_hs (r_hs_now hg) ?_
      refine V_getR d_hs_must_28 fl_hs_140 (is_gd hg) (r_gd_sightings hg) ?_
      refine V_iload_1 d_hs_must_31 ?_
      refine V_aald d_hs_must_32 (is_gd_sightings hg) (by omega) (by omega) (r_gd_sightingsrow hg (by omega)) ?_
      refine V_iconst 0 d_hs_must_33 ?_
      refine V_iald d_hs_must_34 (is_gd_sightings_row hg (by omega)) (by omega) (by omega) ?_
      rw [e0]
      refine V_cvI1 d_hs_must_35 ml_hs_165 mv_hs_unhiredOf (by decide) (Nat.le_of_ble_eq_true rfl) is_hs (ok_unhiredOf hS hF (by omega)) ?_
      rintro _ f2 ⟨rfl, e2⟩
      rw [e2]; clear e2 f2
      refine V_istore_2 d_hs_must_38 rfl ?_
      refine V_aload_0 d_hs_must_39 ?_
      refine V_getR d_hs_must_40 fl_hs_35 is_hs r_hs_chains ?_
      refine V_aload_0 d_hs_must_43 ?_
      refine V_getR d_hs_must_44 fl_hs_57 is_hs (r_hs_now hg) ?_
      refine V_iload_2 d_hs_must_47 ?_
      refine V_cvI2 d_hs_must_48 ml_hs_174 mv_ch_longest (by decide) (Nat.le_of_ble_eq_true rfl) is_ch (ok_longest hg hG hF.1 _) ?_
      rintro _ F1 ⟨rfl, hf1⟩
      have hG1 : Cg g F1 A := hG.mono (gEq.refl A) hF.1 (fun j k a b => hf1 j k (by omega))
      have em := hG1.mt (s := s) (by omega) (by omega)
      refine V_istore_3 d_hs_must_51 rfl ?_
      refine V_aload_0 d_hs_must_52 ?_
      refine V_getR d_hs_must_53 fl_hs_35 is_hs r_hs_chains ?_
      refine V_aload_0 d_hs_must_56 ?_
      refine V_getR d_hs_must_57 fl_hs_57 is_hs (r_hs_now hg) ?_
      refine V_iload_2 d_hs_must_60 ?_
      refine V_aload_0 d_hs_must_61 ?_
      refine V_getR d_hs_must_62 fl_hs_57 is_hs (r_hs_now hg) ?_
      refine V_getR d_hs_must_65 fl_hs_171 (is_gd hg) (r_gd_meets hg) ?_
      refine V_iload_1 d_hs_must_68 ?_
      refine V_iald d_hs_must_69 (is_gd_meets hg) (by omega) (by omega) ?_
      rw [em]
      refine V_iand d_hs_must_70 ?_
      rw [mB_and, andc (fun t ht => own_hi ht)]
      refine V_cvI2 d_hs_must_71 ml_hs_174 mv_ch_longest (by decide) (Nat.le_of_ble_eq_true rfl) is_ch (ok_longest hg hG1 hF.1 _) ?_
      rintro _ F2 ⟨rfl, hf2⟩
      have hG2 : Cg g F2 A := hG1.mono (gEq.refl A) hF.1 (fun j k a b => hf2 j k (by omega))
      refine V_iload_3 d_hs_must_74 ?_
      refine V_icmp_ge 80 d_hs_must_75 (by decide) (by omega) (by omega) (fun c75 => ?_) (fun c75 => ?_)
      · skip
        refine V_aload_0 d_hs_must_80 ?_
        refine V_getR d_hs_must_81 fl_hs_35 is_hs r_hs_chains ?_
        refine V_aload_0 d_hs_must_84 ?_
        refine V_getR d_hs_must_85 fl_hs_57 is_hs (r_hs_now hg) ?_
        refine V_iload_2 d_hs_must_88 ?_
        refine V_iconst 1 d_hs_must_89 ?_
        refine V_iload_1 d_hs_must_90 ?_
        refine V_ishl d_hs_must_91 ?_
        refine V_iconst (-1) d_hs_must_92 ?_
        refine V_ixor d_hs_must_93 ?_
        refine V_iand d_hs_must_94 ?_
        rw [mB_one (by omega), mB_andn]
        refine V_cvI2 d_hs_must_95 ml_hs_174 mv_ch_longest (by decide) (Nat.le_of_ble_eq_true rfl) is_ch (ok_longest hg hG2 hF.1 (less (own A (A 7 s 0)) s)) ?_
        rintro _ F3 ⟨rfl, hf3⟩
        refine V_iload_3 d_hs_must_98 ?_
        refine V_icmp_ge 106 d_hs_must_99 (by decide) (by omega) (by omega) (fun c99 => ?_) (fun c99 => ?_)
        · skip
          refine V_iconst 1 d_hs_must_106 ?_
          refine V_ireturn d_hs_must_107 (hR _ _ ?_)
          refine ⟨?_, fun j k hj => by rw [hf3 j k hj, hf2 j k hj, hf1 j k hj]⟩
          unfold S_must; rw [if_pos (by omega), if_neg (by omega), if_neg (by omega)]
        · skip
          refine V_iconst 2 d_hs_must_102 ?_
          refine V_goto 107 d_hs_must_103 (by decide) ?_
          refine V_ireturn d_hs_must_107 (hR _ _ ?_)
          refine ⟨?_, fun j k hj => by rw [hf3 j k hj, hf2 j k hj, hf1 j k hj]⟩
          unfold S_must; rw [if_pos (by omega), if_neg (by omega), if_pos (by omega)]
      · skip
        refine V_iconst 0 d_hs_must_78 ?_
        refine V_ireturn d_hs_must_79 (hR _ _ ?_)
        refine ⟨?_, fun j k hj => by rw [hf2 j k hj, hf1 j k hj]⟩
        unfold S_must; rw [if_pos (by omega), if_pos (by omega)]
    · skip
      refine V_iconst (-1) d_hs_must_21 ?_
      refine V_ireturn d_hs_must_22 (hR _ _ ?_)
      refine ⟨?_, fun _ _ _ => rfl⟩
      unfold S_must; rw [if_neg (by omega)]
end HS8
