/-! the reference: best, whose, could -/
section MO2
variable {D : q_D} {f : q_F} {A : q_As} {g h : Int}
theorem mo_best (hS : Mst f A) (hF : Wf A) {s w l : Int} (hs : -2147483648 ≤ s ∧ s < 2147483648) (hw : w = 0 ∨ w = 1) (hl : -2147483648 ≤ l ∧ l < 2147483648) : OkI D m_mo_best [vr D 219, vi s, vi w, vi l] (Zg g h) f (fun x f' => x = S_best A s w l ∧ f' = f) := by
  have hn := hF.nn
  obtain ⟨hG, hH, hT⟩ := hS
  refine OkI_of (L0 := [vr D 219, vi s, vi w, vi l, vu, vu, vu, vu]) mi_mo_best rfl rfl (Nat.le_of_ble_eq_true rfl) (fun C hR => ?_)
  have loop : ∀ (m : Nat) (i b : Int) (a6 a7 : Value), 0 ≤ s ∧ s < A 0 4 0 → i + m = A 0 2 0 → 0 ≤ i → (b = -1 ∨ (0 ≤ b ∧ b < A 0 2 0)) → bestN A s w l m i b = S_best A s w l → V D C m_mo_best 16 [vr D 219, vi s, vi w, vi l, vi b, vi i, a6, a7] [] (Zg g h) f := by
    intro m
    induction m with
    | zero =>
      intro i b a6 a7 hs hm h0 hb hr
      refine V_iload_5 d_mo_best_16 ?_
      refine V_aload_0 d_mo_best_18 ?_
      refine V_cvI0 d_mo_best_19 ml_mo_419 mv_mo_shadeMany (by decide) (Nat.le_of_ble_eq_true rfl) is_mo (ok_shadeMany hG) ?_
      rintro _ f2 ⟨rfl, e2⟩
      rw [e2]; clear e2 f2
      refine V_icmp_ge 118 d_mo_best_22 (by decide) (by omega) (by omega) (fun c22 => ?_) (fun c22 => by omega)
      refine V_iload_4 d_mo_best_118 ?_
      refine V_ireturn d_mo_best_120 (hR _ _ ?_)
      exact ⟨hr, rfl⟩
    | succ m ih =>
      intro i b a6 a7 hs hm h0 hb hr
      unfold bestN at hr
      obtain ⟨⟨e8, e9⟩, b8, b9⟩ := hG.pp hF.1 (k := i) (by omega) hs
      refine V_iload_5 d_mo_best_16 ?_
      refine V_aload_0 d_mo_best_18 ?_
      refine V_cvI0 d_mo_best_19 ml_mo_419 mv_mo_shadeMany (by decide) (Nat.le_of_ble_eq_true rfl) is_mo (ok_shadeMany hG) ?_
      rintro _ f2 ⟨rfl, e2⟩
      rw [e2]; clear e2 f2
      refine V_icmp_ge 118 d_mo_best_22 (by decide) (by omega) (by omega) (fun c22 => by omega) (fun c22 => ?_)
      refine V_bipush 24 d_mo_best_25 (by decide) ?_
      refine V_iload_5 d_mo_best_27 ?_
      refine V_imul d_mo_best_29 ?_
      refine V_iload_1 d_mo_best_30 ?_
      refine V_iadd d_mo_best_31 ?_
      refine V_istore_6 d_mo_best_32 rfl ?_
      refine V_iload_2 d_mo_best_34 ?_
      refine V_if_ne 52 d_mo_best_35 (by decide) (by omega) (fun c35 => ?_) (fun c35 => ?_)
      · skip
        refine V_bipush 24 d_mo_best_52 (by decide) ?_
        refine V_iload_4 d_mo_best_54 ?_
        refine V_imul d_mo_best_56 ?_
        refine V_iload_1 d_mo_best_57 ?_
        refine V_iadd d_mo_best_58 ?_
        refine V_istore_7 d_mo_best_59 rfl ?_
        refine V_iload_4 d_mo_best_61 ?_
        refine V_iconst (-1) d_mo_best_63 ?_
        refine V_icmp_eq 108 d_mo_best_64 (by decide) (by omega) (by omega) (fun c64 => ?_) (fun c64 => ?_)
        · skip
          refine V_iload_5 d_mo_best_108 ?_
          refine V_istore_4 d_mo_best_110 rfl ?_
          refine V_iinc_5 d_mo_best_112 rfl ?_
          refine V_goto 16 d_mo_best_115 (by decide) ?_
          refine ih _ _ _ _ hs (by omega) (by omega) (by omega) ?_
          rw [if_neg (by omega), if_pos (by omega)] at hr; exact hr
        · skip
          obtain ⟨⟨e8', e9'⟩, b8', b9'⟩ := hG.pp hF.1 (k := b) (by omega) hs
          refine V_iload_2 d_mo_best_67 ?_
          refine V_if_eq 91 d_mo_best_68 (by decide) (by omega) (fun c68 => by omega) (fun c68 => ?_)
          refine V_aload_0 d_mo_best_71 ?_
          refine V_getR d_mo_best_72 fl_mo_142 is_mo r_mo_passOf ?_
          refine V_iload_6 d_mo_best_75 ?_
          refine V_iald d_mo_best_77 is_mo_passOf (by omega) (by omega) ?_
          refine V_aload_0 d_mo_best_78 ?_
          refine V_getR d_mo_best_79 fl_mo_142 is_mo r_mo_passOf ?_
          refine V_iload_7 d_mo_best_82 ?_
          refine V_iald d_mo_best_84 is_mo_passOf (by omega) (by omega) ?_
          rw [e8, e8']
          refine V_icmp_le 112 d_mo_best_85 (by decide) (by omega) (by omega) (fun c85 => ?_) (fun c85 => ?_)
          · skip
            refine V_iinc_5 d_mo_best_112 rfl ?_
            refine V_goto 16 d_mo_best_115 (by decide) ?_
            refine ih _ _ _ _ hs (by omega) (by omega) (by omega) ?_
            rw [if_neg (by omega), if_neg (q_no c64 (by rw [if_neg c35]; omega))] at hr; exact hr
          · skip
            refine V_goto 108 d_mo_best_88 (by decide) ?_
            refine V_iload_5 d_mo_best_108 ?_
            refine V_istore_4 d_mo_best_110 rfl ?_
            refine V_iinc_5 d_mo_best_112 rfl ?_
            refine V_goto 16 d_mo_best_115 (by decide) ?_
            refine ih _ _ _ _ hs (by omega) (by omega) (by omega) ?_
            rw [if_neg (by omega), if_pos (Or.inr (by rw [if_neg c35]; omega))] at hr; exact hr
      · skip
        refine V_aload_0 d_mo_best_38 ?_
        refine V_getR d_mo_best_39 fl_mo_142 is_mo r_mo_passOf ?_
        refine V_iload_6 d_mo_best_42 ?_
        refine V_iald d_mo_best_44 is_mo_passOf (by omega) (by omega) ?_
        rw [e8]
        refine V_iload_3 d_mo_best_45 ?_
        refine V_icmp_ge 52 d_mo_best_46 (by decide) (by omega) (by omega) (fun c46 => ?_) (fun c46 => ?_)
        · skip
          refine V_bipush 24 d_mo_best_52 (by decide) ?_
          refine V_iload_4 d_mo_best_54 ?_
          refine V_imul d_mo_best_56 ?_
          refine V_iload_1 d_mo_best_57 ?_
          refine V_iadd d_mo_best_58 ?_
          refine V_istore_7 d_mo_best_59 rfl ?_
          refine V_iload_4 d_mo_best_61 ?_
          refine V_iconst (-1) d_mo_best_63 ?_
          refine V_icmp_eq 108 d_mo_best_64 (by decide) (by omega) (by omega) (fun c64 => ?_) (fun c64 => ?_)
          · skip
            refine V_iload_5 d_mo_best_108 ?_
            refine V_istore_4 d_mo_best_110 rfl ?_
            refine V_iinc_5 d_mo_best_112 rfl ?_
            refine V_goto 16 d_mo_best_115 (by decide) ?_
            refine ih _ _ _ _ hs (by omega) (by omega) (by omega) ?_
            rw [if_neg (by omega), if_pos (by omega)] at hr; exact hr
          · skip
            obtain ⟨⟨e8', e9'⟩, b8', b9'⟩ := hG.pp hF.1 (k := b) (by omega) hs
            refine V_iload_2 d_mo_best_67 ?_
            refine V_if_eq 91 d_mo_best_68 (by decide) (by omega) (fun c68 => ?_) (fun c68 => by omega)
            refine V_aload_0 d_mo_best_91 ?_
            refine V_getR d_mo_best_92 fl_mo_145 is_mo r_mo_priceOf ?_
            refine V_iload_6 d_mo_best_95 ?_
            refine V_iald d_mo_best_97 is_mo_priceOf (by omega) (by omega) ?_
            refine V_aload_0 d_mo_best_98 ?_
            refine V_getR d_mo_best_99 fl_mo_145 is_mo r_mo_priceOf ?_
            refine V_iload_7 d_mo_best_102 ?_
            refine V_iald d_mo_best_104 is_mo_priceOf (by omega) (by omega) ?_
            rw [e9, e9']
            refine V_icmp_ge 112 d_mo_best_105 (by decide) (by omega) (by omega) (fun c105 => ?_) (fun c105 => ?_)
            · skip
              refine V_iinc_5 d_mo_best_112 rfl ?_
              refine V_goto 16 d_mo_best_115 (by decide) ?_
              refine ih _ _ _ _ hs (by omega) (by omega) (by omega) ?_
              rw [if_neg (by omega), if_neg (q_no c64 (by rw [if_pos (by omega)]; omega))] at hr; exact hr
            · skip
              refine V_iload_5 d_mo_best_108 ?_
              refine V_istore_4 d_mo_best_110 rfl ?_
              refine V_iinc_5 d_mo_best_112 rfl ?_
              refine V_goto 16 d_mo_best_115 (by decide) ?_
              refine ih _ _ _ _ hs (by omega) (by omega) (by omega) ?_
              rw [if_neg (by omega), if_pos (Or.inr (by rw [if_pos (by omega)]; omega))] at hr; exact hr
        · skip
          refine V_goto 112 d_mo_best_49 (by decide) ?_
          refine V_iinc_5 d_mo_best_112 rfl ?_
          refine V_goto 16 d_mo_best_115 (by decide) ?_
          refine ih _ _ _ _ hs (by omega) (by omega) (by omega) ?_
          rw [if_pos (by omega)] at hr; exact hr
  refine V_aload_0 d_mo_best_0 ?_
  refine V_iload_1 d_mo_best_1 ?_
  refine V_cvI1 d_mo_best_2 ml_mo_456 mv_mo_isSeen (by decide) (Nat.le_of_ble_eq_true rfl) is_mo (ok_isSeen hG hF.1 hs) ?_
  rintro x2 f2 ⟨hx2, e2⟩
  rw [e2]; clear e2 f2
  refine V_if_ne 10 d_mo_best_5 (by decide) (by omega) (fun c5 => ?_) (fun c5 => ?_)
  · skip
    refine V_iconst (-1) d_mo_best_10 ?_
    refine V_istore_4 d_mo_best_11 rfl ?_
    refine V_iconst 0 d_mo_best_13 ?_
    refine V_istore_5 d_mo_best_14 rfl ?_
    refine loop (A 0 2 0).toNat _ _ _ _ (by omega) (by omega) (by decide) (Or.inl rfl) ?_
    unfold S_best; rw [if_pos (by omega)]
  · skip
    refine V_iconst (-1) d_mo_best_8 ?_
    refine V_ireturn d_mo_best_9 (hR _ _ ?_)
    refine ⟨?_, rfl⟩
    unfold S_best; rw [if_neg (by omega)]
/-- two by two, one can be at all of a set -/
def allP (A : q_As) (p : Int → Bool) : Prop := ∀ s t, 0 ≤ s → s < A 0 4 0 → p s = true → 0 ≤ t → t < A 0 4 0 → p t = true → can A s t = true
theorem ok_canBeAll (hG : Mg f A) (hW : Wg A) (p : Int → Bool) (hp : ∀ t, 0 ≤ t → t < 31 → p t = true → t < A 0 4 0) : OkI D m_mo_canBeAll [vr D 219, vi (mB p)] (Zg g h) f (fun x f' => ((x = 1 ∧ allP A p) ∨ (x = 0 ∧ ¬ allP A p)) ∧ f' = f) := by
  have hn := hW.1
  refine OkB_of (L0 := [vr D 219, vi (mB p), vu]) mi_mo_canBeAll rfl rfl (Nat.le_of_ble_eq_true rfl) (fun C hR => ?_)
  have loop : ∀ (m : Nat) (i : Int), i + m = A 0 4 0 → 0 ≤ i → (∀ s t, 0 ≤ s → s < i → p s = true → 0 ≤ t → t < A 0 4 0 → p t = true → can A s t = true) → V D C m_mo_canBeAll 2 [vr D 219, vi (mB p), vi i] [] (Zg g h) f := by
    intro m
    induction m with
    | zero =>
      intro i hm h0 hi
      have e : i = A 0 4 0 := by omega
      subst e
      refine V_iload_2 d_mo_canBeAll_2 ?_
      refine V_aload_0 d_mo_canBeAll_3 ?_
      refine V_cvI0 d_mo_canBeAll_4 ml_mo_328 mv_mo_seenMany (by decide) (Nat.le_of_ble_eq_true rfl) is_mo (ok_seenMany hG) ?_
      rintro _ f2 ⟨rfl, e2⟩
      rw [e2]; clear e2 f2
      refine V_icmp_ge 40 d_mo_canBeAll_7 (by decide) (by omega) (by omega) (fun c7 => ?_) (fun c7 => by omega)
      refine V_iconst 1 d_mo_canBeAll_40 ?_
      refine V_ireturn d_mo_canBeAll_41 (hR _ _ (by decide) ?_)
      exact ⟨Or.inl ⟨rfl, hi⟩, rfl⟩
    | succ m ih =>
      intro i hm h0 hi
      have em := hG.mt h0 (by omega)
      have hr := mB_rg (fun t => p t && !(decide (t < A 0 4 0) && can A i t))
      refine V_iload_2 d_mo_canBeAll_2 ?_
      refine V_aload_0 d_mo_canBeAll_3 ?_
      refine V_cvI0 d_mo_canBeAll_4 ml_mo_328 mv_mo_seenMany (by decide) (Nat.le_of_ble_eq_true rfl) is_mo (ok_seenMany hG) ?_
      rintro _ f2 ⟨rfl, e2⟩
      rw [e2]; clear e2 f2
      refine V_icmp_ge 40 d_mo_canBeAll_7 (by decide) (by omega) (by omega) (fun c7 => by omega) (fun c7 => ?_)
      refine V_iload_1 d_mo_canBeAll_10 ?_
      refine V_iload_2 d_mo_canBeAll_11 ?_
      refine V_ishr d_mo_canBeAll_12 ?_
      refine V_iconst 1 d_mo_canBeAll_13 ?_
      refine V_iand d_mo_canBeAll_14 ?_
      refine V_iconst 1 d_mo_canBeAll_15 ?_
      refine V_icmp_ne 34 d_mo_canBeAll_16 (by decide) (mB_shrrg _ _) (by decide) (fun c16 => ?_) (fun c16 => ?_)
      · skip
        rw [mB_ib0 _ (by omega)] at c16
        refine V_iinc_2 d_mo_canBeAll_34 rfl ?_
        refine V_goto 2 d_mo_canBeAll_37 (by decide) ?_
        refine ih _ (by omega) (by omega) (fun s t s0 s1 hs t0 t1 ht => ?_)
        by_cases e : s = i
        · rw [e, c16] at hs; cases hs
        · exact hi s t s0 (by omega) hs t0 t1 ht
      · skip
        rw [mB_ib _ (by omega)] at c16
        refine V_iload_1 d_mo_canBeAll_19 ?_
        refine V_aload_0 d_mo_canBeAll_20 ?_
        refine V_getR d_mo_canBeAll_21 fl_mo_151 is_mo r_mo_with ?_
        refine V_iload_2 d_mo_canBeAll_24 ?_
        refine V_iald d_mo_canBeAll_25 is_mo_with (by omega) (by omega) ?_
        rw [em]
        refine V_iconst (-1) d_mo_canBeAll_26 ?_
        refine V_ixor d_mo_canBeAll_27 ?_
        refine V_iand d_mo_canBeAll_28 ?_
        rw [mB_andn]
        refine V_if_eq 34 d_mo_canBeAll_29 (by decide) (by omega) (fun c29 => ?_) (fun c29 => ?_)
        · skip
          rw [mB_is0] at c29
          refine V_iinc_2 d_mo_canBeAll_34 rfl ?_
          refine V_goto 2 d_mo_canBeAll_37 (by decide) ?_
          refine ih _ (by omega) (by omega) (fun s t s0 s1 hs t0 t1 ht => ?_)
          by_cases e : s = i
          · have := c29 t t0 (by omega)
            rw [ht, decide_eq_true t1] at this
            simp at this
            rw [e]; exact this
          · exact hi s t s0 (by omega) hs t0 t1 ht
        · skip
          rw [mB_is0] at c29
          refine V_iconst 0 d_mo_canBeAll_32 ?_
          refine V_ireturn d_mo_canBeAll_33 (hR _ _ (by decide) ?_)
          refine ⟨Or.inr ⟨rfl, fun ha => c29 (fun t t0 t1 => ?_)⟩, rfl⟩
          cases hpt : p t
          · rfl
          · have h1 := hp t t0 t1 hpt
            rw [ha i t h0 (by omega) c16 t0 h1 hpt, decide_eq_true h1]; rfl
  refine V_iconst 0 d_mo_canBeAll_0 ?_
  refine V_istore_2 d_mo_canBeAll_1 rfl ?_
  exact loop (A 0 4 0).toNat _ (by omega) (by decide) (fun s t a b => by omega)
theorem wset_lt {s sh t : Int} (h : wset A s sh t = true) : t < A 0 4 0 := by
  unfold wset own isOf held at h
  split at h <;> simp at h <;> omega
theorem held_at {sh t : Int} (h : held A sh t = true) : t < A 0 4 0 ∧ A 11 t 0 = sh := by
  unfold held at h; simp at h; omega
theorem wgt_key (hG : Mg f A) (hW : Wg A) {s sh : Int} (hs : 0 ≤ s ∧ s < A 0 4 0) : q_and (mB (wset A s sh)) (q_xor (f 265 s) (-1)) = mB (fun t => wset A s sh t && !can A s t) := by
  rw [hG.mt hs.1 hs.2, mB_andn]
  refine mB_eq (fun t h0 h1 => ?_)
  cases ht : wset A s sh t
  · rfl
  · simp [wset_lt ht]
theorem allP_own (hF : Wf A) {s sh : Int} (hs : 0 ≤ s ∧ s < A 0 4 0) (hh : 0 ≤ sh) : allP A (fun j => held A sh j || decide (j = s)) ↔ mB (fun t => wset A s sh t && !can A s t) = 0 := by
  have hn := hF.nn
  have e : wset A s sh = held A sh := by unfold wset; rw [if_neg (by omega)]
  rw [e, mB_is0]
  constructor
  · intro ha t t0 t1
    cases ht : held A sh t
    · rfl
    · rw [ha s t hs.1 hs.2 (by simp) t0 (held_at ht).1 (by simp [ht])]; rfl
  · intro ha a b a0 a1 pa b0 b1 pb
    have hc : ∀ t, 0 ≤ t → t < A 0 4 0 → held A sh t = true → can A s t = true := fun t t0 t1 ht => by
      have := ha t t0 (by omega)
      rw [ht] at this
      simpa using this
    cases hta : held A sh a <;> cases htb : held A sh b
    · simp [hta] at pa; simp [htb] at pb
      rw [pa, pb]; exact can_refl hF.1 hs
    · simp [hta] at pa
      rw [pa]; exact hc b b0 b1 htb
    · simp [htb] at pb
      rw [pb, can_symm hF.1 ⟨a0, a1⟩ hs]; exact hc a a0 a1 hta
    · have h1 := (held_at hta).2
      have h2 := (held_at htb).2
      exact hF.2.1.2.1 a b a0 a1 b0 b1 (by omega) (by omega)
theorem own_lt {s sh : Int} (hs : 0 ≤ s ∧ s < A 0 4 0) (t : Int) (t0 : 0 ≤ t) (t1 : t < 31) (ht : (fun j => held A sh j || decide (j = s)) t = true) : t < A 0 4 0 := by
  cases h : held A sh t
  · simp [h] at ht; omega
  · exact (held_at h).1
theorem okm_weightOf (hS : Mst f A) (hF : Wf A) {s sh : Int} (hs : 0 ≤ s ∧ s < A 0 4 0) (hh : -1 ≤ sh ∧ sh < A 0 2 0) : OkI D m_mo_weightOf [vr D 219, vi s, vi sh] (Zg g h) f (fun x f' => x = wgt A s sh ∧ f' = f) := by
  have hn := hF.nn
  obtain ⟨hG, hH, hT⟩ := hS
  have bs := hG.sg hF.1 hs.1 hs.2
  have key := wgt_key hG hF.1 hs (sh := sh)
  have hr := mB_rg (fun t => wset A s sh t && !can A s t)
  refine OkI_of (L0 := [vr D 219, vi s, vi sh, vu]) mi_mo_weightOf rfl rfl (Nat.le_of_ble_eq_true rfl) (fun C hR => ?_)
  refine V_iconst 1 d_mo_weightOf_0 ?_
  refine V_iload_1 d_mo_weightOf_1 ?_
  refine V_ishl d_mo_weightOf_2 ?_
  refine V_istore_3 d_mo_weightOf_3 rfl ?_
  refine V_iload_2 d_mo_weightOf_4 ?_
  refine V_iconst (-1) d_mo_weightOf_5 ?_
  refine V_icmp_ne 38 d_mo_weightOf_6 (by decide) (by omega) (by omega) (fun c6 => ?_) (fun c6 => ?_)
  · skip
    refine V_aload_0 d_mo_weightOf_38 ?_
    refine V_aload_0 d_mo_weightOf_39 ?_
    refine V_iload_2 d_mo_weightOf_40 ?_
    refine V_cvI1 d_mo_weightOf_41 ml_mo_440 mv_mo_hiredBy (by decide) (Nat.le_of_ble_eq_true rfl) is_mo (ok_hiredBy hG hH hF.1 hF.2.1 (by omega)) ?_
    rintro _ f2 ⟨rfl, e2⟩
    rw [e2]; clear e2 f2
    refine V_iload_3 d_mo_weightOf_44 ?_
    refine V_ior d_mo_weightOf_45 ?_
    rw [mB_one (by omega), mB_or]
    refine V_cvI1 d_mo_weightOf_46 ml_mo_465 mv_mo_canBeAll (by decide) (Nat.le_of_ble_eq_true rfl) is_mo (ok_canBeAll hG hF.1 _ (own_lt hs)) ?_
    rintro x46 f2 ⟨hx46, e2⟩
    rw [e2]; clear e2 f2
    refine V_if_eq 66 d_mo_weightOf_49 (by decide) (by omega) (fun c49 => ?_) (fun c49 => ?_)
    · skip
      refine V_iconst 0 d_mo_weightOf_66 ?_
      refine V_ireturn d_mo_weightOf_67 (hR _ _ ?_)
      refine ⟨?_, rfl⟩
      have hk := allP_own hF hs (show 0 ≤ sh by omega)
      unfold wgt
      first | (rw [if_neg (fun e => q_b0 hx46 c49 (hk.mpr e))]; done) | (rw [if_pos (hk.mp (q_b1 hx46 c49)), if_neg (by omega)]; exact (hG.pp hF.1 (by omega) hs).1.1)
    · skip
      refine V_aload_0 d_mo_weightOf_52 ?_
      refine V_getR d_mo_weightOf_53 fl_mo_142 is_mo r_mo_passOf ?_
      refine V_bipush 24 d_mo_weightOf_56 (by decide) ?_
      refine V_iload_2 d_mo_weightOf_58 ?_
      refine V_imul d_mo_weightOf_59 ?_
      refine V_iload_1 d_mo_weightOf_60 ?_
      refine V_iadd d_mo_weightOf_61 ?_
      refine V_iald d_mo_weightOf_62 is_mo_passOf (by omega) (by omega) ?_
      refine V_goto 67 d_mo_weightOf_63 (by decide) ?_
      refine V_ireturn d_mo_weightOf_67 (hR _ _ ?_)
      refine ⟨?_, rfl⟩
      have hk := allP_own hF hs (show 0 ≤ sh by omega)
      unfold wgt
      first | (rw [if_neg (fun e => q_b0 hx46 c49 (hk.mpr e))]; done) | (rw [if_pos (hk.mp (q_b1 hx46 c49)), if_neg (by omega)]; exact (hG.pp hF.1 (by omega) hs).1.1)
  · skip
    refine V_aload_0 d_mo_weightOf_9 ?_
    refine V_aload_0 d_mo_weightOf_10 ?_
    refine V_iload_1 d_mo_weightOf_11 ?_
    refine V_cvI1 d_mo_weightOf_12 ml_mo_425 mv_mo_personOf (by decide) (Nat.le_of_ble_eq_true rfl) is_mo (ok_personOf hG hF.1 hs.1 hs.2) ?_
    rintro _ f2 ⟨rfl, e2⟩
    rw [e2]; clear e2 f2
    refine V_cvI1 d_mo_weightOf_15 ml_mo_462 mv_mo_ownOf (by decide) (Nat.le_of_ble_eq_true rfl) is_mo (ok_ownOf hG hH hF.1 hF.2.1 (by omega)) ?_
    rintro _ f2 ⟨rfl, e2⟩
    rw [e2]; clear e2 f2
    refine V_aload_0 d_mo_weightOf_18 ?_
    refine V_getR d_mo_weightOf_19 fl_mo_151 is_mo r_mo_with ?_
    refine V_iload_1 d_mo_weightOf_22 ?_
    refine V_iald d_mo_weightOf_23 is_mo_with (by omega) (by omega) ?_
    refine V_iconst (-1) d_mo_weightOf_24 ?_
    refine V_ixor d_mo_weightOf_25 ?_
    refine V_iand d_mo_weightOf_26 ?_
    rw [show mB (own A (A 7 s 0)) = mB (wset A s sh) by unfold wset; rw [if_pos c6], key]
    refine V_if_ne 36 d_mo_weightOf_27 (by decide) (by omega) (fun c27 => ?_) (fun c27 => ?_)
    · skip
      refine V_iconst 0 d_mo_weightOf_36 ?_
      refine V_ireturn d_mo_weightOf_37 (hR _ _ ?_)
      refine ⟨?_, rfl⟩
      unfold wgt
      first | (rw [if_neg c27]; done) | (rw [if_pos c27, if_pos c6]; done)
    · skip
      refine V_sipush 1000 d_mo_weightOf_30 (by decide) ?_
      refine V_goto 37 d_mo_weightOf_33 (by decide) ?_
      refine V_ireturn d_mo_weightOf_37 (hR _ _ ?_)
      refine ⟨?_, rfl⟩
      unfold wgt
      first | (rw [if_neg c27]; done) | (rw [if_pos c27, if_pos c6]; done)
theorem mo_whose (hS : Mst f A) (hF : Wf A) {s sh : Int} (hs : -2147483648 ≤ s ∧ s < 2147483648) (hh : -2147483648 ≤ sh ∧ sh < 2147483648) : OkI D m_mo_whose [vr D 219, vi s, vi sh] (Zg g h) f (fun x f' => x = S_whose A s sh ∧ f' = f) := by
  have hn := hF.nn
  have hS' := hS
  obtain ⟨hG, hH, hT⟩ := hS'
  refine OkI_of (L0 := [vr D 219, vi s, vi sh, vu, vu]) mi_mo_whose rfl rfl (Nat.le_of_ble_eq_true rfl) (fun C hR => ?_)
  have loop : ∀ (m : Nat) (i a : Int), 0 ≤ s ∧ s < A 0 4 0 → -1 ≤ sh ∧ sh < A 0 2 0 → i + m = A 0 2 0 → 0 ≤ i → 0 ≤ a → whN A s m i a = whAll A s → V D C m_mo_whose 28 [vr D 219, vi s, vi sh, vi a, vi i] [] (Zg g h) f := by
    intro m
    induction m with
    | zero =>
      intro i a hs hh hm h0 ha hr
      have hz : wgt A s (-1) ≤ whAll A s ∧ whAll A s ≤ wgt A s (-1) + 1000 * (A 0 2 0).toNat := whN_rg hF hs (A 0 2 0).toNat 0 (wgt A s (-1)) (by decide) (by omega) (wgt_rg hF hs (by omega)).1
      have hz1 := wgt_rg hF hs (sh := -1) (by omega)
      have hz2 := wgt_rg hF hs hh
      unfold whN at hr
      refine V_iload_4 d_mo_whose_28 ?_
      refine V_aload_0 d_mo_whose_30 ?_
      refine V_cvI0 d_mo_whose_31 ml_mo_419 mv_mo_shadeMany (by decide) (Nat.le_of_ble_eq_true rfl) is_mo (ok_shadeMany hG) ?_
      rintro _ f2 ⟨rfl, e2⟩
      rw [e2]; clear e2 f2
      refine V_icmp_ge 53 d_mo_whose_34 (by decide) (by omega) (by omega) (fun c34 => ?_) (fun c34 => by omega)
      refine V_iload_3 d_mo_whose_53 ?_
      refine V_if_ne 61 d_mo_whose_54 (by decide) (by omega) (fun c54 => ?_) (fun c54 => ?_)
      · skip
        refine V_sipush 1000 d_mo_whose_61 (by decide) ?_
        refine V_aload_0 d_mo_whose_64 ?_
        refine V_iload_1 d_mo_whose_65 ?_
        refine V_iload_2 d_mo_whose_66 ?_
        refine V_cvI2 d_mo_whose_67 ml_mo_468 mv_mo_weightOf (by decide) (Nat.le_of_ble_eq_true rfl) is_mo (okm_weightOf hS hF hs hh) ?_
        rintro _ f2 ⟨rfl, e2⟩
        rw [e2]; clear e2 f2
        refine V_imul d_mo_whose_70 ?_
        refine V_iload_3 d_mo_whose_71 ?_
        refine V_idiv d_mo_whose_72 (by omega) (by omega) ?_
        refine V_ireturn d_mo_whose_73 (hR _ _ ?_)
        refine ⟨?_, rfl⟩
        unfold S_whose; rw [if_pos ⟨hs, hh⟩, if_neg (by rw [← hr]; exact c54), ← hr]
      · skip
        refine V_iconst 0 d_mo_whose_57 ?_
        refine V_goto 73 d_mo_whose_58 (by decide) ?_
        refine V_ireturn d_mo_whose_73 (hR _ _ ?_)
        refine ⟨?_, rfl⟩
        unfold S_whose; rw [if_pos ⟨hs, hh⟩, if_pos (by rw [← hr]; exact c54)]
    | succ m ih =>
      intro i a hs hh hm h0 ha hr
      unfold whN at hr
      have hz2 := wgt_rg hF hs (sh := i) (by omega)
      refine V_iload_4 d_mo_whose_28 ?_
      refine V_aload_0 d_mo_whose_30 ?_
      refine V_cvI0 d_mo_whose_31 ml_mo_419 mv_mo_shadeMany (by decide) (Nat.le_of_ble_eq_true rfl) is_mo (ok_shadeMany hG) ?_
      rintro _ f2 ⟨rfl, e2⟩
      rw [e2]; clear e2 f2
      refine V_icmp_ge 53 d_mo_whose_34 (by decide) (by omega) (by omega) (fun c34 => by omega) (fun c34 => ?_)
      refine V_iload_3 d_mo_whose_37 ?_
      refine V_aload_0 d_mo_whose_38 ?_
      refine V_iload_1 d_mo_whose_39 ?_
      refine V_iload_4 d_mo_whose_40 ?_
      refine V_cvI2 d_mo_whose_42 ml_mo_468 mv_mo_weightOf (by decide) (Nat.le_of_ble_eq_true rfl) is_mo (okm_weightOf hS hF hs (by omega)) ?_
      rintro _ f2 ⟨rfl, e2⟩
      rw [e2]; clear e2 f2
      refine V_iadd d_mo_whose_45 ?_
      refine V_istore_3 d_mo_whose_46 rfl ?_
      refine V_iinc_4 d_mo_whose_47 rfl ?_
      refine V_goto 28 d_mo_whose_50 (by decide) ?_
      exact ih _ _ hs hh (by omega) (by omega) (by omega) hr
  have head : 0 ≤ s ∧ s < A 0 4 0 → -1 ≤ sh ∧ sh < A 0 2 0 → V D C m_mo_whose 28 [vr D 219, vi s, vi sh, vi 0, vi (-1)] [] (Zg g h) f := by
    intro hs hh
    have hz2 := wgt_rg hF hs (sh := -1) (by omega)
    refine V_iload_4 d_mo_whose_28 ?_
    refine V_aload_0 d_mo_whose_30 ?_
    refine V_cvI0 d_mo_whose_31 ml_mo_419 mv_mo_shadeMany (by decide) (Nat.le_of_ble_eq_true rfl) is_mo (ok_shadeMany hG) ?_
    rintro _ f2 ⟨rfl, e2⟩
    rw [e2]; clear e2 f2
    refine V_icmp_ge 53 d_mo_whose_34 (by decide) (by omega) (by omega) (fun c34 => by omega) (fun c34 => ?_)
    refine V_iload_3 d_mo_whose_37 ?_
    refine V_aload_0 d_mo_whose_38 ?_
    refine V_iload_1 d_mo_whose_39 ?_
    refine V_iload_4 d_mo_whose_40 ?_
    refine V_cvI2 d_mo_whose_42 ml_mo_468 mv_mo_weightOf (by decide) (Nat.le_of_ble_eq_true rfl) is_mo (okm_weightOf hS hF hs (by omega)) ?_
    rintro _ f2 ⟨rfl, e2⟩
    rw [e2]; clear e2 f2
    refine V_iadd d_mo_whose_45 ?_
    refine V_istore_3 d_mo_whose_46 rfl ?_
    refine V_iinc_4 d_mo_whose_47 rfl ?_
    refine V_goto 28 d_mo_whose_50 (by decide) ?_
    refine loop (A 0 2 0).toNat _ _ hs hh (by omega) (by decide) (by omega) ?_
    rw [Int.zero_add]; rfl
  refine V_aload_0 d_mo_whose_0 ?_
  refine V_iload_1 d_mo_whose_1 ?_
  refine V_cvI1 d_mo_whose_2 ml_mo_456 mv_mo_isSeen (by decide) (Nat.le_of_ble_eq_true rfl) is_mo (ok_isSeen hG hF.1 hs) ?_
  rintro x2 f2 ⟨hx2, e2⟩
  rw [e2]; clear e2 f2
  refine V_if_eq 21 d_mo_whose_5 (by decide) (by omega) (fun c5 => ?_) (fun c5 => ?_)
  · skip
    refine V_iconst (-1) d_mo_whose_21 ?_
    refine V_ireturn d_mo_whose_22 (hR _ _ ?_)
    refine ⟨?_, rfl⟩
    unfold S_whose; rw [if_neg (by omega)]
  · skip
    refine V_iload_2 d_mo_whose_8 ?_
    refine V_iconst (-1) d_mo_whose_9 ?_
    refine V_icmp_eq 23 d_mo_whose_10 (by decide) (by omega) (by omega) (fun c10 => ?_) (fun c10 => ?_)
    · skip
      refine V_iconst 0 d_mo_whose_23 ?_
      refine V_istore_3 d_mo_whose_24 rfl ?_
      refine V_iconst (-1) d_mo_whose_25 ?_
      refine V_istore_4 d_mo_whose_26 rfl ?_
      exact head (by omega) (by omega)
    · skip
      refine V_aload_0 d_mo_whose_13 ?_
      refine V_iload_2 d_mo_whose_14 ?_
      refine V_cvI1 d_mo_whose_15 ml_mo_453 mv_mo_isShade (by decide) (Nat.le_of_ble_eq_true rfl) is_mo (okm_isShade hG hF.1 hh) ?_
      rintro x15 f2 ⟨hx15, e2⟩
      rw [e2]; clear e2 f2
      refine V_if_ne 23 d_mo_whose_18 (by decide) (by omega) (fun c18 => ?_) (fun c18 => ?_)
      · skip
        refine V_iconst 0 d_mo_whose_23 ?_
        refine V_istore_3 d_mo_whose_24 rfl ?_
        refine V_iconst (-1) d_mo_whose_25 ?_
        refine V_istore_4 d_mo_whose_26 rfl ?_
        exact head (by omega) (by omega)
      · skip
        refine V_iconst (-1) d_mo_whose_21 ?_
        refine V_ireturn d_mo_whose_22 (hR _ _ ?_)
        refine ⟨?_, rfl⟩
        unfold S_whose; rw [if_neg (by omega)]
theorem far_near (hW : Wg A) {p t s : Int} (hp : 0 ≤ p ∧ p < A 0 3 0) (hs : 0 ≤ s ∧ s < A 0 4 0) : A 6 (A 7 s 1) p ≤ iabs (A 7 s 2 - t) ↔ near A p t s = true := by
  obtain ⟨-, p1, -⟩ := hW.2.1 s hs.1 hs.2
  unfold near
  rw [(hW.2.2.1 _ _ p1.1 p1.2 hp.1 hp.2).2.1, ← iabs_neg, show -(A 7 s 2 - t) = t - A 7 s 2 by omega]
  simp
def allN (A : q_As) (p t : Int) (q : Int → Bool) : Prop := ∀ s, 0 ≤ s → s < A 0 4 0 → q s = true → near A p t s = true
theorem ok_couldBe (hG : Mg f A) (hW : Wg A) (q : Int → Bool) {p t : Int} (hp : 0 ≤ p ∧ p < A 0 3 0) (ht : 0 ≤ t ∧ t ≤ 99) : OkI D m_mo_couldBe [vr D 219, vi (mB q), vi p, vi t] (Zg g h) f (fun x f' => ((x = 1 ∧ allN A p t q) ∨ (x = 0 ∧ ¬ allN A p t q)) ∧ f' = f) := by
  have hn := hW.1
  refine OkB_of (L0 := [vr D 219, vi (mB q), vi p, vi t, vu]) mi_mo_couldBe rfl rfl (Nat.le_of_ble_eq_true rfl) (fun C hR => ?_)
  have loop : ∀ (m : Nat) (i : Int), i + m = A 0 4 0 → 0 ≤ i → (∀ s, 0 ≤ s → s < i → q s = true → near A p t s = true) → V D C m_mo_couldBe 3 [vr D 219, vi (mB q), vi p, vi t, vi i] [] (Zg g h) f := by
    intro m
    induction m with
    | zero =>
      intro i hm h0 hi
      have e : i = A 0 4 0 := by omega
      subst e
      refine V_iload_4 d_mo_couldBe_3 ?_
      refine V_aload_0 d_mo_couldBe_5 ?_
      refine V_cvI0 d_mo_couldBe_6 ml_mo_328 mv_mo_seenMany (by decide) (Nat.le_of_ble_eq_true rfl) is_mo (ok_seenMany hG) ?_
      rintro _ f2 ⟨rfl, e2⟩
      rw [e2]; clear e2 f2
      refine V_icmp_ge 51 d_mo_couldBe_9 (by decide) (by omega) (by omega) (fun c9 => ?_) (fun c9 => by omega)
      refine V_iconst 1 d_mo_couldBe_51 ?_
      refine V_ireturn d_mo_couldBe_52 (hR _ _ (by decide) ?_)
      exact ⟨Or.inl ⟨rfl, hi⟩, rfl⟩
    | succ m ih =>
      intro i hm h0 hi
      have bs := (hG.sg hW h0 (by omega)).2
      have hk := far_near hW hp (t := t) (s := i) ⟨h0, by omega⟩
      refine V_iload_4 d_mo_couldBe_3 ?_
      refine V_aload_0 d_mo_couldBe_5 ?_
      refine V_cvI0 d_mo_couldBe_6 ml_mo_328 mv_mo_seenMany (by decide) (Nat.le_of_ble_eq_true rfl) is_mo (ok_seenMany hG) ?_
      rintro _ f2 ⟨rfl, e2⟩
      rw [e2]; clear e2 f2
      refine V_icmp_ge 51 d_mo_couldBe_9 (by decide) (by omega) (by omega) (fun c9 => by omega) (fun c9 => ?_)
      refine V_iload_1 d_mo_couldBe_12 ?_
      refine V_iload_4 d_mo_couldBe_13 ?_
      refine V_ishr d_mo_couldBe_15 ?_
      refine V_iconst 1 d_mo_couldBe_16 ?_
      refine V_iand d_mo_couldBe_17 ?_
      refine V_iconst 1 d_mo_couldBe_18 ?_
      refine V_icmp_ne 45 d_mo_couldBe_19 (by decide) (mB_shrrg _ _) (by decide) (fun c19 => ?_) (fun c19 => ?_)
      · skip
        rw [mB_ib0 _ (by omega)] at c19
        refine V_iinc_4 d_mo_couldBe_45 rfl ?_
        refine V_goto 3 d_mo_couldBe_48 (by decide) ?_
        refine ih _ (by omega) (by omega) (fun s s0 s1 hs => ?_)
        by_cases e : s = i
        · rw [e, c19] at hs; cases hs
        · exact hi s s0 (by omega) hs
      · skip
        rw [mB_ib _ (by omega)] at c19
        refine V_aload_0 d_mo_couldBe_22 ?_
        refine V_aload_0 d_mo_couldBe_23 ?_
        refine V_iload_4 d_mo_couldBe_24 ?_
        refine V_cvI1 d_mo_couldBe_26 ml_mo_331 mv_mo_placeOf (by decide) (Nat.le_of_ble_eq_true rfl) is_mo (ok_placeOf hG hW h0 (by omega)) ?_
        rintro _ f2 ⟨rfl, e2⟩
        rw [e2]; clear e2 f2
        refine V_aload_0 d_mo_couldBe_29 ?_
        refine V_iload_4 d_mo_couldBe_30 ?_
        refine V_cvI1 d_mo_couldBe_32 ml_mo_334 mv_mo_hourOf (by decide) (Nat.le_of_ble_eq_true rfl) is_mo (ok_hourOf hG hW h0 (by omega)) ?_
        rintro _ f2 ⟨rfl, e2⟩
        rw [e2]; clear e2 f2
        refine V_iload_2 d_mo_couldBe_35 ?_
        refine V_iload_3 d_mo_couldBe_36 ?_
        refine V_cvI4 d_mo_couldBe_37 ml_mo_337 mv_mo_areFarEnough (by decide) (Nat.le_of_ble_eq_true rfl) is_mo (ok_areFarEnough hG hW bs.2.1 hp bs.2.2.1 ht) ?_
        rintro x37 f2 ⟨hx37, e2⟩
        rw [e2]; clear e2 f2
        refine V_if_ne 45 d_mo_couldBe_40 (by decide) (by omega) (fun c40 => ?_) (fun c40 => ?_)
        · skip
          refine V_iinc_4 d_mo_couldBe_45 rfl ?_
          refine V_goto 3 d_mo_couldBe_48 (by decide) ?_
          refine ih _ (by omega) (by omega) (fun s s0 s1 hs => ?_)
          by_cases e : s = i
          · rw [e]; exact hk.mp (q_b1 hx37 c40)
          · exact hi s s0 (by omega) hs
        · skip
          refine V_iconst 0 d_mo_couldBe_43 ?_
          refine V_ireturn d_mo_couldBe_44 (hR _ _ (by decide) ?_)
          exact ⟨Or.inr ⟨rfl, fun ha => q_b0 hx37 c40 (hk.mpr (ha i h0 (by omega) c19))⟩, rfl⟩
  refine V_iconst 0 d_mo_couldBe_0 ?_
  refine V_istore_4 d_mo_couldBe_1 rfl ?_
  exact loop (A 0 4 0).toNat _ (by omega) (by decide) (fun s a b => by omega)
theorem bodies_lt {w b s : Int} (h : bodies A w b s = true) : s < A 0 4 0 := by
  unfold bodies own isOf held at h
  split at h <;> simp at h <;> omega
theorem allN_ok (hW : Wg A) {p t w b : Int} : allN A p t (bodies A w b) ↔ bodyOk A p t w b = true := by
  have hn := hW.1
  unfold bodyOk
  rw [decide_eq_true_iff, mB_is0]
  constructor
  · intro h s s0 s1
    cases hb : bodies A w b s
    · rfl
    · rw [h s s0 (bodies_lt hb) hb]; rfl
  · intro h s s0 s1 hb
    have := h s s0 (by omega)
    rw [hb] at this
    simpa using this
theorem mo_could (hS : Mst f A) (hF : Wf A) {p t w : Int} (hp : -2147483648 ≤ p ∧ p < 2147483648) (ht : -2147483648 ≤ t ∧ t < 2147483648) (hw : w = 0 ∨ w = 1) : OkI D m_mo_could [vr D 219, vi p, vi t, vi w] (Zg g h) f (fun x f' => x = S_could A p t w ∧ f' = f) := by
  have hn := hF.nn
  obtain ⟨hG, hH, hT⟩ := hS
  refine OkI_of (L0 := [vr D 219, vi p, vi t, vi w, vu, vu, vu]) mi_mo_could rfl rfl (Nat.le_of_ble_eq_true rfl) (fun C hR => ?_)
  have hnB : 0 ≤ nB A w ∧ nB A w ≤ 8 := by unfold nB; split <;> omega
  have loop : ∀ (m : Nat) (i a : Int), (0 ≤ p ∧ p < A 0 3 0) ∧ 0 ≤ t ∧ t ≤ 99 → i + m = nB A w → 0 ≤ i → a = mB (fun b => decide (b < i) && bodyOk A p t w b) → V D C m_mo_could 45 [vr D 219, vi p, vi t, vi w, vi a, vi (nB A w), vi i] [] (Zg g h) f := by
    intro m
    induction m with
    | zero =>
      intro i a hv hm h0 ha
      have e : i = nB A w := by omega
      refine V_iload_6 d_mo_could_45 ?_
      refine V_iload_5 d_mo_could_47 ?_
      refine V_icmp_ge 95 d_mo_could_49 (by decide) (by omega) (by omega) (fun c49 => ?_) (fun c49 => by omega)
      refine V_iload_4 d_mo_could_95 ?_
      refine V_ireturn d_mo_could_97 (hR _ _ ?_)
      refine ⟨?_, rfl⟩
      unfold S_could; rw [if_pos hv, ha, e]
    | succ m ih =>
      intro i a hv hm h0 ha
      have hk := allN_ok hF.1 (p := p) (t := t) (w := w) (b := i)
      refine V_iload_6 d_mo_could_45 ?_
      refine V_iload_5 d_mo_could_47 ?_
      refine V_icmp_ge 95 d_mo_could_49 (by decide) (by omega) (by omega) (fun c49 => by omega) (fun c49 => ?_)
      refine V_aload_0 d_mo_could_52 ?_
      refine V_iload_3 d_mo_could_53 ?_
      refine V_if_eq 66 d_mo_could_54 (by decide) (by omega) (fun c54 => ?_) (fun c54 => ?_)
      · skip
        refine V_aload_0 d_mo_could_66 ?_
        refine V_iload_6 d_mo_could_67 ?_
        refine V_cvI1 d_mo_could_69 ml_mo_462 mv_mo_ownOf (by decide) (Nat.le_of_ble_eq_true rfl) is_mo (ok_ownOf hG hH hF.1 hF.2.1 (by omega)) ?_
        rintro _ f2 ⟨rfl, e2⟩
        rw [e2]; clear e2 f2
        rw [show own A i = bodies A w i by unfold bodies; rw [if_pos c54]]
        refine V_iload_1 d_mo_could_72 ?_
        refine V_iload_2 d_mo_could_73 ?_
        refine V_cvI3 d_mo_could_74 ml_mo_488 mv_mo_couldBe (by decide) (Nat.le_of_ble_eq_true rfl) is_mo (ok_couldBe hG hF.1 _ hv.1 hv.2) ?_
        rintro x74 f2 ⟨hx74, e2⟩
        rw [e2]; clear e2 f2
        refine V_if_eq 89 d_mo_could_77 (by decide) (by omega) (fun c77 => ?_) (fun c77 => ?_)
        · skip
          refine V_iinc_6 d_mo_could_89 rfl ?_
          refine V_goto 45 d_mo_could_92 (by decide) ?_
          refine ih _ _ hv (by omega) (by omega) ?_
          rw [mB_step _ (by omega), ha, if_neg (fun e => q_b0 hx74 c77 (hk.mpr e))]
        · skip
          refine V_iload_4 d_mo_could_80 ?_
          refine V_iconst 1 d_mo_could_82 ?_
          refine V_iload_6 d_mo_could_83 ?_
          refine V_ishl d_mo_could_85 ?_
          refine V_ior d_mo_could_86 ?_
          refine V_istore_4 d_mo_could_87 rfl ?_
          refine V_iinc_6 d_mo_could_89 rfl ?_
          refine V_goto 45 d_mo_could_92 (by decide) ?_
          refine ih _ _ hv (by omega) (by omega) ?_
          rw [mB_step _ (by omega), ha, if_pos (hk.mp (q_b1 hx74 c77))]
      · skip
        refine V_aload_0 d_mo_could_57 ?_
        refine V_iload_6 d_mo_could_58 ?_
        refine V_cvI1 d_mo_could_60 ml_mo_440 mv_mo_hiredBy (by decide) (Nat.le_of_ble_eq_true rfl) is_mo (ok_hiredBy hG hH hF.1 hF.2.1 (by omega)) ?_
        rintro _ f2 ⟨rfl, e2⟩
        rw [e2]; clear e2 f2
        refine V_goto 72 d_mo_could_63 (by decide) ?_
        rw [show held A i = bodies A w i by unfold bodies; rw [if_neg c54]]
        refine V_iload_1 d_mo_could_72 ?_
        refine V_iload_2 d_mo_could_73 ?_
        refine V_cvI3 d_mo_could_74 ml_mo_488 mv_mo_couldBe (by decide) (Nat.le_of_ble_eq_true rfl) is_mo (ok_couldBe hG hF.1 _ hv.1 hv.2) ?_
        rintro x74 f2 ⟨hx74, e2⟩
        rw [e2]; clear e2 f2
        refine V_if_eq 89 d_mo_could_77 (by decide) (by omega) (fun c77 => ?_) (fun c77 => ?_)
        · skip
          refine V_iinc_6 d_mo_could_89 rfl ?_
          refine V_goto 45 d_mo_could_92 (by decide) ?_
          refine ih _ _ hv (by omega) (by omega) ?_
          rw [mB_step _ (by omega), ha, if_neg (fun e => q_b0 hx74 c77 (hk.mpr e))]
        · skip
          refine V_iload_4 d_mo_could_80 ?_
          refine V_iconst 1 d_mo_could_82 ?_
          refine V_iload_6 d_mo_could_83 ?_
          refine V_ishl d_mo_could_85 ?_
          refine V_ior d_mo_could_86 ?_
          refine V_istore_4 d_mo_could_87 rfl ?_
          refine V_iinc_6 d_mo_could_89 rfl ?_
          refine V_goto 45 d_mo_could_92 (by decide) ?_
          refine ih _ _ hv (by omega) (by omega) ?_
          rw [mB_step _ (by omega), ha, if_pos (hk.mp (q_b1 hx74 c77))]
  have e1 : w = 0 → nB A w = A 0 1 0 := fun e => by unfold nB; rw [if_pos e]
  have e2 : ¬ w = 0 → nB A w = A 0 2 0 := fun e => by unfold nB; rw [if_neg e]
  refine V_aload_0 d_mo_could_0 ?_
  refine V_iload_1 d_mo_could_1 ?_
  refine V_cvI1 d_mo_could_2 ml_mo_459 mv_mo_isPlaceHere (by decide) (Nat.le_of_ble_eq_true rfl) is_mo (ok_isPlaceHere hG hF.1 hp) ?_
  rintro x2 f2 ⟨hx2, e2⟩
  rw [e2]; clear e2 f2
  refine V_if_eq 20 d_mo_could_5 (by decide) (by omega) (fun c5 => ?_) (fun c5 => ?_)
  · skip
    refine V_iconst (-1) d_mo_could_20 ?_
    refine V_ireturn d_mo_could_21 (hR _ _ ?_)
    refine ⟨?_, rfl⟩
    unfold S_could; rw [if_neg (by omega)]
  · skip
    refine V_iload_2 d_mo_could_8 ?_
    refine V_i2l d_mo_could_9 (by omega) ?_
    refine V_lconst0 d_mo_could_10 ?_
    refine V_ldc2 99 d_mo_could_11 co_mo_486 rfl ?_
    refine V_csI3 d_mo_could_14 ml_mo_225 ms_mo_isIn (by decide) (Nat.le_of_ble_eq_true rfl) (ok_isIn (by omega) (by omega) (by omega)) ?_
    rintro x14 f2 ⟨hx14, e2⟩
    rw [e2]; clear e2 f2
    refine V_if_ne 22 d_mo_could_17 (by decide) (by omega) (fun c17 => ?_) (fun c17 => ?_)
    · skip
      refine V_iconst 0 d_mo_could_22 ?_
      refine V_istore_4 d_mo_could_23 rfl ?_
      refine V_iload_3 d_mo_could_25 ?_
      refine V_if_eq 36 d_mo_could_26 (by decide) (by omega) (fun c26 => ?_) (fun c26 => ?_)
      · skip
        refine V_aload_0 d_mo_could_36 ?_
        refine V_cvI0 d_mo_could_37 ml_mo_422 mv_mo_persons (by decide) (Nat.le_of_ble_eq_true rfl) is_mo (ok_persons hG) ?_
        rintro _ f2 ⟨rfl, e2⟩
        rw [e2]; clear e2 f2
        rw [← e1 c26]
        refine V_istore_5 d_mo_could_40 rfl ?_
        refine V_iconst 0 d_mo_could_42 ?_
        refine V_istore_6 d_mo_could_43 rfl ?_
        exact loop (nB A w).toNat _ _ (by omega) (by omega) (by decide) (mB_lt0 _).symm
      · skip
        refine V_aload_0 d_mo_could_29 ?_
        refine V_cvI0 d_mo_could_30 ml_mo_419 mv_mo_shadeMany (by decide) (Nat.le_of_ble_eq_true rfl) is_mo (ok_shadeMany hG) ?_
        rintro _ f2 ⟨rfl, e2⟩
        rw [e2]; clear e2 f2
        rw [← e2 c26]
        refine V_goto 40 d_mo_could_33 (by decide) ?_
        refine V_istore_5 d_mo_could_40 rfl ?_
        refine V_iconst 0 d_mo_could_42 ?_
        refine V_istore_6 d_mo_could_43 rfl ?_
        exact loop (nB A w).toNat _ _ (by omega) (by omega) (by decide) (mB_lt0 _).symm
    · skip
      refine V_iconst (-1) d_mo_could_20 ?_
      refine V_ireturn d_mo_could_21 (hR _ _ ?_)
      refine ⟨?_, rfl⟩
      unfold S_could; rw [if_neg (by omega)]
end MO2
