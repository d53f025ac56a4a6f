/-! the reference: image, on -/
section MO7
variable {D : q_D} {f f' : q_F} {A : q_As} {g h : Int}
theorem ok_checked {q n l : Int} (hq : q_ce 274 q 20 l) (hn : 0 ≤ n ∧ n ≤ l) (hl : l ≤ 2000) (hb : ∀ k, 0 ≤ k → k < n → 0 ≤ f q k ∧ f q k ≤ 1000) : OkI D m_mo_checked [vr D q, vi n] (Zg g h) f (fun x f' => x = chk (f q) n ∧ f' = f) := by
  refine OkI_of (L0 := [vr D q, vi n, vu, vu]) mi_mo_checked rfl rfl (Nat.le_of_ble_eq_true rfl) (fun C hR => ?_)
  have loop : ∀ (m : Nat) (i c : Int), i + m = n → 0 ≤ i → (0 ≤ c ∧ c < 251) → ckN (f q) m i c = chk (f q) n → V D C m_mo_checked 5 [vr D q, vi n, vi c, vi i] [] (Zg g h) f := by
    intro m
    induction m with
    | zero =>
      intro i c hm h0 hc hr
      refine V_iload_3 d_mo_checked_5 ?_
      refine V_iload_1 d_mo_checked_6 ?_
      refine V_icmp_ge 29 d_mo_checked_7 (by decide) (by omega) (by omega) (fun c7 => ?_) (fun c7 => by omega)
      refine V_iload_2 d_mo_checked_29 ?_
      refine V_ireturn d_mo_checked_30 (hR _ _ ?_)
      exact ⟨hr, rfl⟩
    | succ m ih =>
      intro i c hm h0 hc hr
      have hbi := hb i h0 (by omega)
      unfold ckN at hr
      refine V_iload_3 d_mo_checked_5 ?_
      refine V_iload_1 d_mo_checked_6 ?_
      refine V_icmp_ge 29 d_mo_checked_7 (by decide) (by omega) (by omega) (fun c7 => by omega) (fun c7 => ?_)
      refine V_bipush 7 d_mo_checked_10 (by decide) ?_
      refine V_iload_2 d_mo_checked_12 ?_
      refine V_imul d_mo_checked_13 ?_
      refine V_aload_0 d_mo_checked_14 ?_
      refine V_iload_3 d_mo_checked_15 ?_
      refine V_iald d_mo_checked_16 hq (by omega) (by omega) ?_
      refine V_iadd d_mo_checked_17 ?_
      refine V_sipush 251 d_mo_checked_18 (by decide) ?_
      refine V_irem d_mo_checked_21 (by omega) (by omega) ?_
      refine V_istore_2 d_mo_checked_22 rfl ?_
      refine V_iinc_3 d_mo_checked_23 rfl ?_
      refine V_goto 5 d_mo_checked_26 (by decide) ?_
      exact ih _ _ (by omega) (by omega) (by omega) hr
  refine V_bipush 73 d_mo_checked_0 (by decide) ?_
  refine V_istore_2 d_mo_checked_2 rfl ?_
  refine V_iconst 0 d_mo_checked_3 ?_
  refine V_istore_3 d_mo_checked_4 rfl ?_
  exact loop n.toNat _ _ (by omega) (by decide) (by decide) rfl
theorem mo_image (hS : Mst f A) (hF : Wf A) : OkI D m_mo_image [vr D 219] (Zg g h) f (fun x f' => x = S_image A ∧ Mst f' (A_image A) ∧ q_hi f f') := by
  have hn := hF.nn
  have hS' := hS
  obtain ⟨hG, hH, hT⟩ := hS'
  refine OkI_of (L0 := [vr D 219, vu]) mi_mo_image rfl rfl (Nat.le_of_ble_eq_true rfl) (fun C hR => ?_)
  have loop : ∀ (m : Nat) (i : Int) (F : q_F), i + m = A 0 4 0 → 0 ≤ i → (∀ j k, ¬ j = 273 → ¬ (j = 219 ∧ k = 75) → F j k = f j k) → F 219 75 = A 0 4 0 → (∀ k, 0 ≤ k → k < i → F 273 k = A 11 k 0 + 1) → V D C m_mo_image 10 [vr D 219, vi i] [] (Zg g h) F := by
    intro m
    induction m with
    | zero =>
      intro i F hm h0 hf h75 hb
      have ei : i = A 0 4 0 := by omega
      subst ei
      have hck : chk (F 273) (A 0 4 0) = chk (fun k => A 11 k 0 + 1) (A 0 4 0) := chk_eq hb
      refine V_iload_1 d_mo_image_10 ?_
      refine V_aload_0 d_mo_image_11 ?_
      refine V_getI d_mo_image_12 fl_mo_532 is_mo ?_
      rw [h75]
      refine V_icmp_ge 38 d_mo_image_15 (by decide) (by omega) (by omega) (fun c15 => ?_) (fun c15 => by omega)
      refine V_aload_0 d_mo_image_38 ?_
      refine V_getR d_mo_image_39 fl_mo_179 is_mo r_mo_octet ?_
      refine V_aload_0 d_mo_image_42 ?_
      refine V_getI d_mo_image_43 fl_mo_532 is_mo ?_
      rw [h75]
      refine V_aload_0 d_mo_image_46 ?_
      refine V_getR d_mo_image_47 fl_mo_179 is_mo r_mo_octet ?_
      refine V_aload_0 d_mo_image_50 ?_
      refine V_getI d_mo_image_51 fl_mo_532 is_mo ?_
      rw [h75]
      refine V_csI2 d_mo_image_54 ml_mo_535 ms_mo_checked (by decide) (Nat.le_of_ble_eq_true rfl) (ok_checked is_mo_octet (by omega) (by decide) (fun k k0 k1 => by rw [hb k k0 k1]; have := hF.2.1.1 k k0 k1; omega)) ?_
      rintro _ f2 ⟨rfl, e2⟩
      rw [e2]; clear e2 f2
      refine V_iast d_mo_image_57 is_mo_octet (by omega) (by omega) ?_
      refine V_aload_0 d_mo_image_58 ?_
      refine V_dup d_mo_image_59 rfl ?_
      refine V_getI d_mo_image_60 fl_mo_532 is_mo ?_
      rw [q_up_at (by decide), h75]
      refine V_iconst 1 d_mo_image_63 ?_
      refine V_iadd d_mo_image_64 ?_
      refine V_putI d_mo_image_65 fl_mo_532 is_mo ?_
      refine V_aload_0 d_mo_image_68 ?_
      refine V_getI d_mo_image_69 fl_mo_532 is_mo ?_
      rw [q_up_eq]
      refine V_ireturn d_mo_image_72 (hR _ _ ?_)
      refine ⟨rfl, ?_, fun j k hj => ?_⟩
      · refine hS.img hF (fun j k h1 h2 => ?_) ?_ (fun k k0 k1 => ?_)
        · rw [q_up_ne (by omega), q_up_at h1]; exact hf j k h1 h2
        · rw [q_up_eq]
        · rw [q_up_at (by decide)]
          by_cases e : k < A 0 4 0
          · rw [if_pos e, q_up_ne (Or.inr (by omega))]; exact hb k k0 e
          · rw [if_neg e, q_up_is (by omega)]; exact hck
      · rw [q_up_at (by omega), q_up_at (by omega)]; exact hf j k (by omega) (by omega)
    | succ m ih =>
      intro i F hm h0 hf h75 hb
      obtain ⟨e11, b11⟩ := hH.at hF.2.1 h0 (by omega)
      refine V_iload_1 d_mo_image_10 ?_
      refine V_aload_0 d_mo_image_11 ?_
      refine V_getI d_mo_image_12 fl_mo_532 is_mo ?_
      rw [h75]
      refine V_icmp_ge 38 d_mo_image_15 (by decide) (by omega) (by omega) (fun c15 => by omega) (fun c15 => ?_)
      refine V_aload_0 d_mo_image_18 ?_
      refine V_getR d_mo_image_19 fl_mo_179 is_mo r_mo_octet ?_
      refine V_iload_1 d_mo_image_22 ?_
      refine V_aload_0 d_mo_image_23 ?_
      refine V_getR d_mo_image_24 fl_mo_148 is_mo r_mo_hired ?_
      refine V_iload_1 d_mo_image_27 ?_
      refine V_iald d_mo_image_28 is_mo_hired (by omega) (by omega) ?_
      rw [hf _ _ (by decide) (by omega), e11]
      refine V_iconst 1 d_mo_image_29 ?_
      refine V_iadd d_mo_image_30 ?_
      refine V_iast d_mo_image_31 is_mo_octet (by omega) (by omega) ?_
      refine V_iinc_1 d_mo_image_32 rfl ?_
      refine V_goto 10 d_mo_image_35 (by decide) ?_
      refine ih _ _ (by omega) (by omega) (fun j k hj h2 => by rw [q_up_at hj]; exact hf j k hj h2) (by rw [q_up_at (by decide)]; exact h75) (fun k k0 k1 => ?_)
      by_cases e : k = i
      · rw [q_up_is e, e]
      · rw [q_up_ne (Or.inr e)]; exact hb k k0 (by omega)
  refine V_aload_0 d_mo_image_0 ?_
  refine V_aload_0 d_mo_image_1 ?_
  refine V_cvI0 d_mo_image_2 ml_mo_328 mv_mo_seenMany (by decide) (Nat.le_of_ble_eq_true rfl) is_mo (ok_seenMany hG) ?_
  rintro _ f2 ⟨rfl, e2⟩
  rw [e2]; clear e2 f2
  refine V_putI d_mo_image_5 fl_mo_532 is_mo ?_
  refine V_iconst 0 d_mo_image_8 ?_
  refine V_istore_1 d_mo_image_9 rfl ?_
  exact loop (A 0 4 0).toNat _ _ (by omega) (by decide) (fun j k a b => q_up_ne (by omega)) (q_up_eq _ _ _ _) (fun k a b => by omega)
theorem mo_on (hS : Mst f A) (hF : Wf A) : OkI D m_mo_on [vr D 219] (Zg g h) f (fun x f' => x = S_on A ∧ Mst f' (A_on A) ∧ q_hi f f') := by
  have hn := hF.nn
  have hW0 : Wf (A_tape A 0 (fun k => A 14 k 0)) := W_tape hF (by decide) (fun k a b => by omega)
  have hS0 : Mst (q_up f 219 1 0) (A_tape A 0 (fun k => A 14 k 0)) := hS.tape hF (fun j k a b => q_up_ne (by omega)) (q_up_eq _ _ _ _) (fun k a b => by omega)
  have hT := hS.2.2
  have hG0 : Mg (q_up f 219 1 0) A := hS.1.mono ⟨rfl, rfl, rfl, rfl, rfl, rfl, rfl, rfl, rfl, rfl, rfl, rfl⟩ (fun j k hq => q_up_ne (by unfold q_mg at hq; omega)) hF.1
  have el := hT.1
  have bl := hF.2.2.1
  have eb : ∀ k, q_up f 219 1 0 220 k = f 220 k := fun k => q_up_at (by decide)
  refine OkB_of (L0 := [vr D 219, vu, vu, vu, vu]) mi_mo_on rfl rfl (Nat.le_of_ble_eq_true rfl) (fun C hR => ?_)
  have no : ¬ isImgP A → 0 = S_on A ∧ Mst (q_up f 219 1 0) (A_on A) ∧ q_hi f (q_up f 219 1 0) := fun hp => by
    have hi : ¬ isImg A = true := fun e => hp ((isImg_iff hF.1).mp e)
    unfold S_on A_on; rw [if_neg hi, if_neg hi]
    exact ⟨rfl, hS0, fun j k hj => q_up_at (by omega)⟩
  have loopC : ∀ (m : Nat) (i x : Int) (a3 a4 : Value) (F : q_F), isImgP A → i + m = A 0 4 0 → 0 ≤ i → (∀ j k, ¬ j = 264 → F j k = q_up f 219 1 0 j k) → (∀ s, 0 ≤ s → s < i → F 264 s = A 14 s 0 - 1) → V D C m_mo_on 140 [vr D 219, vi x, vi i, a3, a4] [] (Zg g h) F := by
    intro m
    induction m with
    | zero =>
      intro i x a3 a4 F hp hm h0 hf hb
      have hGF : Mg F A := hG0.mono ⟨rfl, rfl, rfl, rfl, rfl, rfl, rfl, rfl, rfl, rfl, rfl, rfl⟩ (fun j k hq => hf j k (by unfold q_mg at hq; omega)) hF.1
      refine V_iload_2 d_mo_on_140 ?_
      refine V_aload_0 d_mo_on_141 ?_
      refine V_cvI0 d_mo_on_142 ml_mo_328 mv_mo_seenMany (by decide) (Nat.le_of_ble_eq_true rfl) is_mo (ok_seenMany hGF) ?_
      rintro _ f2 ⟨rfl, e2⟩
      rw [e2]; clear e2 f2
      refine V_icmp_ge 168 d_mo_on_145 (by decide) (by omega) (by omega) (fun c145 => ?_) (fun c145 => by omega)
      refine V_aload_0 d_mo_on_168 ?_
      refine V_iconst 0 d_mo_on_169 ?_
      refine V_putI d_mo_on_170 fl_mo_341 is_mo ?_
      refine V_iconst 1 d_mo_on_173 ?_
      refine V_ireturn d_mo_on_174 (hR _ _ (by decide) ?_)
      have hi := (isImg_iff hF.1).mpr hp
      unfold S_on A_on; rw [if_pos hi, if_pos hi]
      refine ⟨rfl, hS0.hires hW0 (fun j k h1 h2 h3 => ?_) (fun s s0 s1 => ?_) ?_ ?_ (fun i s a b => by omega), fun j k hj => ?_⟩
      · rw [q_up_ne (by omega)]; exact hf j k h1
      · have : s < A 0 4 0 := s1
        rw [q_up_at (by decide)]; exact hb s s0 (by omega)
      · rw [q_up_eq]
      · rw [q_up_ne (Or.inr (by decide)), hf _ _ (by decide), q_up_ne (Or.inr (by decide))]; exact hS.2.1.2.2.1
      · rw [q_up_at (by omega), hf _ _ (by omega), q_up_at (by omega)]
    | succ m ih =>
      intro i x a3 a4 F hp hm h0 hf hb
      have hl := hp.1
      have hGF : Mg F A := hG0.mono ⟨rfl, rfl, rfl, rfl, rfl, rfl, rfl, rfl, rfl, rfl, rfl, rfl⟩ (fun j k hq => hf j k (by unfold q_mg at hq; omega)) hF.1
      have ei : F 220 i = A 14 i 0 := by rw [hf _ _ (by decide), eb]; exact hT.2.1 i h0 (by omega)
      refine V_iload_2 d_mo_on_140 ?_
      refine V_aload_0 d_mo_on_141 ?_
      refine V_cvI0 d_mo_on_142 ml_mo_328 mv_mo_seenMany (by decide) (Nat.le_of_ble_eq_true rfl) is_mo (ok_seenMany hGF) ?_
      rintro _ f2 ⟨rfl, e2⟩
      rw [e2]; clear e2 f2
      refine V_icmp_ge 168 d_mo_on_145 (by decide) (by omega) (by omega) (fun c145 => by omega) (fun c145 => ?_)
      refine V_aload_0 d_mo_on_148 ?_
      refine V_getR d_mo_on_149 fl_mo_148 is_mo r_mo_hired ?_
      refine V_iload_2 d_mo_on_152 ?_
      refine V_aload_0 d_mo_on_153 ?_
      refine V_getR d_mo_on_154 fl_mo_7 is_mo r_mo_tape ?_
      refine V_iload_2 d_mo_on_157 ?_
      refine V_iald d_mo_on_158 is_mo_tape (by omega) (by omega) ?_
      rw [ei]
      refine V_iconst 1 d_mo_on_159 ?_
      refine V_isub d_mo_on_160 ?_
      refine V_iast d_mo_on_161 is_mo_hired (by omega) (by omega) ?_
      refine V_iinc_2 d_mo_on_162 rfl ?_
      refine V_goto 140 d_mo_on_165 (by decide) ?_
      refine ih _ _ _ _ _ hp (by omega) (by omega) (fun j k a => by rw [q_up_at a]; exact hf j k a) (fun s s0 s1 => ?_)
      by_cases e : s = i
      · rw [q_up_is e, e]
      · rw [q_up_ne (Or.inr e)]; exact hb s s0 (by omega)
  have inner : ∀ (m : Nat) (t k x b : Int), A 13 0 3 = A 0 4 0 + 1 → 1 ≤ k ∧ k ≤ A 0 2 0 → (∀ t, V D C m_mo_on 122 [vr D 219, vi x, vi k, vi (mB (fun j => decide (j < A 0 4 0) && decide (A 14 j 0 = k))), vi t] [] (Zg g h) (q_up f 219 1 0)) → t + m = A 0 4 0 → 0 ≤ t → b = mB (fun j => decide (j < t) && decide (A 14 j 0 = k)) → V D C m_mo_on 89 [vr D 219, vi x, vi k, vi b, vi t] [] (Zg g h) (q_up f 219 1 0) := by
    intro m
    induction m with
    | zero =>
      intro t k x b hl hk K hm h0 hb
      have et : t = A 0 4 0 := by omega
      refine V_iload_4 d_mo_on_89 ?_
      refine V_aload_0 d_mo_on_91 ?_
      refine V_cvI0 d_mo_on_92 ml_mo_328 mv_mo_seenMany (by decide) (Nat.le_of_ble_eq_true rfl) is_mo (ok_seenMany hG0) ?_
      rintro _ f2 ⟨rfl, e2⟩
      rw [e2]; clear e2 f2
      refine V_icmp_ge 122 d_mo_on_95 (by decide) (by omega) (by omega) (fun c95 => ?_) (fun c95 => by omega)
      rw [hb, et]; exact K _
    | succ m ih =>
      intro t k x b hl hk K hm h0 hb
      have ei : f 220 t = A 14 t 0 := hT.2.1 t h0 (by omega)
      have bi := hF.2.2.2.1 t h0 (by omega)
      refine V_iload_4 d_mo_on_89 ?_
      refine V_aload_0 d_mo_on_91 ?_
      refine V_cvI0 d_mo_on_92 ml_mo_328 mv_mo_seenMany (by decide) (Nat.le_of_ble_eq_true rfl) is_mo (ok_seenMany hG0) ?_
      rintro _ f2 ⟨rfl, e2⟩
      rw [e2]; clear e2 f2
      refine V_icmp_ge 122 d_mo_on_95 (by decide) (by omega) (by omega) (fun c95 => by omega) (fun c95 => ?_)
      refine V_aload_0 d_mo_on_98 ?_
      refine V_getR d_mo_on_99 fl_mo_7 is_mo r_mo_tape ?_
      refine V_iload_4 d_mo_on_102 ?_
      refine V_iald d_mo_on_104 is_mo_tape (by omega) (by omega) ?_
      rw [eb, ei]
      refine V_iload_2 d_mo_on_105 ?_
      refine V_icmp_ne 116 d_mo_on_106 (by decide) (by omega) (by omega) (fun c106 => ?_) (fun c106 => ?_)
      · skip
        refine V_iinc_4 d_mo_on_116 rfl ?_
        refine V_goto 89 d_mo_on_119 (by decide) ?_
        refine ih _ _ _ _ hl hk K (by omega) (by omega) ?_
        rw [mB_step _ (by omega), hb, decide_eq_false c106]; rfl
      · skip
        refine V_iload_3 d_mo_on_109 ?_
        refine V_iconst 1 d_mo_on_110 ?_
        refine V_iload_4 d_mo_on_111 ?_
        refine V_ishl d_mo_on_113 ?_
        refine V_ior d_mo_on_114 ?_
        refine V_istore_3 d_mo_on_115 rfl ?_
        refine V_iinc_4 d_mo_on_116 rfl ?_
        refine V_goto 89 d_mo_on_119 (by decide) ?_
        refine ih _ _ _ _ hl hk K (by omega) (by omega) ?_
        rw [mB_step _ (by omega), hb, decide_eq_true (by omega)]; rfl
  have loopK : ∀ (m : Nat) (k x : Int) (a3 a4 : Value), A 13 0 3 = A 0 4 0 + 1 → A 14 (A 0 4 0) 0 = chk (fun k => A 14 k 0) (A 0 4 0) → (∀ s, 0 ≤ s → s < A 0 4 0 → A 14 s 0 ≤ A 0 2 0) → k + m = A 0 2 0 + 1 → 1 ≤ k → (∀ q, 1 ≤ q → q < k → allP A (fun j => decide (j < A 0 4 0) && decide (A 14 j 0 = q))) → V D C m_mo_on 76 [vr D 219, vi x, vi k, a3, a4] [] (Zg g h) (q_up f 219 1 0) := by
    intro m
    induction m with
    | zero =>
      intro k x a3 a4 hl hc hs hm h0 hq
      have hp : isImgP A := ⟨hl, hc, fun s s0 s1 => ⟨hs s s0 s1, fun hp t t0 t1 e => hq (A 14 s 0) (by omega) (by have := hs s s0 s1; omega) s t s0 s1 (by simp [s1]) t0 t1 (by simp [t1, e])⟩⟩
      refine V_iload_2 d_mo_on_76 ?_
      refine V_aload_0 d_mo_on_77 ?_
      refine V_cvI0 d_mo_on_78 ml_mo_419 mv_mo_shadeMany (by decide) (Nat.le_of_ble_eq_true rfl) is_mo (ok_shadeMany hG0) ?_
      rintro _ f2 ⟨rfl, e2⟩
      rw [e2]; clear e2 f2
      refine V_icmp_gt 138 d_mo_on_81 (by decide) (by omega) (by omega) (fun c81 => ?_) (fun c81 => by omega)
      refine V_iconst 0 d_mo_on_138 ?_
      refine V_istore_2 d_mo_on_139 rfl ?_
      exact loopC (A 0 4 0).toNat _ _ _ _ _ hp (by omega) (by decide) (fun _ _ _ => rfl) (fun s a b => by omega)
    | succ m ih =>
      intro k x a3 a4 hl hc hs hm h0 hq
      have K : ∀ t, V D C m_mo_on 122 [vr D 219, vi x, vi k, vi (mB (fun j => decide (j < A 0 4 0) && decide (A 14 j 0 = k))), vi t] [] (Zg g h) (q_up f 219 1 0) := by
        intro t
        refine V_aload_0 d_mo_on_122 ?_
        refine V_iload_3 d_mo_on_123 ?_
        refine V_cvI1 d_mo_on_124 ml_mo_465 mv_mo_canBeAll (by decide) (Nat.le_of_ble_eq_true rfl) is_mo (ok_canBeAll hG0 hF.1 _ (fun t t0 t1 ht => by simp at ht; exact ht.1)) ?_
        rintro x124 f2 ⟨hx124, e2⟩
        rw [e2]; clear e2 f2
        refine V_if_ne 132 d_mo_on_127 (by decide) (by omega) (fun c127 => ?_) (fun c127 => ?_)
        · skip
          refine V_iinc_2 d_mo_on_132 rfl ?_
          refine V_goto 76 d_mo_on_135 (by decide) ?_
          refine ih _ _ _ _ hl hc hs (by omega) (by omega) (fun q q0 q1 => ?_)
          by_cases e : q = k
          · rw [e]; exact q_b1 hx124 c127
          · exact hq q q0 (by omega)
        · skip
          refine V_iconst 0 d_mo_on_130 ?_
          refine V_ireturn d_mo_on_131 (hR _ _ (by decide) ?_)
          refine no (fun hp => q_b0 hx124 c127 (fun s t s0 s1 hs t0 t1 ht => ?_))
          simp at hs ht
          exact (hp.2.2 s s0 s1).2 (by omega) t t0 t1 (by omega)
      refine V_iload_2 d_mo_on_76 ?_
      refine V_aload_0 d_mo_on_77 ?_
      refine V_cvI0 d_mo_on_78 ml_mo_419 mv_mo_shadeMany (by decide) (Nat.le_of_ble_eq_true rfl) is_mo (ok_shadeMany hG0) ?_
      rintro _ f2 ⟨rfl, e2⟩
      rw [e2]; clear e2 f2
      refine V_icmp_gt 138 d_mo_on_81 (by decide) (by omega) (by omega) (fun c81 => by omega) (fun c81 => ?_)
      refine V_iconst 0 d_mo_on_84 ?_
      refine V_istore_3 d_mo_on_85 rfl ?_
      refine V_iconst 0 d_mo_on_86 ?_
      refine V_istore_4 d_mo_on_87 rfl ?_
      exact inner (A 0 4 0).toNat _ _ _ _ hl (by omega) K (by omega) (by decide) (mB_lt0 _).symm
  have loopA : ∀ (m : Nat) (i x : Int) (a3 a4 : Value), A 13 0 3 = A 0 4 0 + 1 → A 14 (A 0 4 0) 0 = chk (fun k => A 14 k 0) (A 0 4 0) → i + m = A 0 4 0 → 0 ≤ i → (∀ s, 0 ≤ s → s < i → A 14 s 0 ≤ A 0 2 0) → V D C m_mo_on 45 [vr D 219, vi x, vi i, a3, a4] [] (Zg g h) (q_up f 219 1 0) := by
    intro m
    induction m with
    | zero =>
      intro i x a3 a4 hl hc hm h0 hs
      refine V_iload_2 d_mo_on_45 ?_
      refine V_aload_0 d_mo_on_46 ?_
      refine V_cvI0 d_mo_on_47 ml_mo_328 mv_mo_seenMany (by decide) (Nat.le_of_ble_eq_true rfl) is_mo (ok_seenMany hG0) ?_
      rintro _ f2 ⟨rfl, e2⟩
      rw [e2]; clear e2 f2
      refine V_icmp_ge 74 d_mo_on_50 (by decide) (by omega) (by omega) (fun c50 => ?_) (fun c50 => by omega)
      refine V_iconst 1 d_mo_on_74 ?_
      refine V_istore_2 d_mo_on_75 rfl ?_
      exact loopK (A 0 2 0).toNat _ _ _ _ hl hc (fun s s0 s1 => hs s s0 (by omega)) (by omega) (by decide) (fun q a b => by omega)
    | succ m ih =>
      intro i x a3 a4 hl hc hm h0 hs
      have ei : f 220 i = A 14 i 0 := hT.2.1 i h0 (by omega)
      have bi := hF.2.2.2.1 i h0 (by omega)
      refine V_iload_2 d_mo_on_45 ?_
      refine V_aload_0 d_mo_on_46 ?_
      refine V_cvI0 d_mo_on_47 ml_mo_328 mv_mo_seenMany (by decide) (Nat.le_of_ble_eq_true rfl) is_mo (ok_seenMany hG0) ?_
      rintro _ f2 ⟨rfl, e2⟩
      rw [e2]; clear e2 f2
      refine V_icmp_ge 74 d_mo_on_50 (by decide) (by omega) (by omega) (fun c50 => by omega) (fun c50 => ?_)
      refine V_aload_0 d_mo_on_53 ?_
      refine V_getR d_mo_on_54 fl_mo_7 is_mo r_mo_tape ?_
      refine V_iload_2 d_mo_on_57 ?_
      refine V_iald d_mo_on_58 is_mo_tape (by omega) (by omega) ?_
      rw [eb, ei]
      refine V_aload_0 d_mo_on_59 ?_
      refine V_cvI0 d_mo_on_60 ml_mo_419 mv_mo_shadeMany (by decide) (Nat.le_of_ble_eq_true rfl) is_mo (ok_shadeMany hG0) ?_
      rintro _ f2 ⟨rfl, e2⟩
      rw [e2]; clear e2 f2
      refine V_icmp_le 68 d_mo_on_63 (by decide) (by omega) (by omega) (fun c63 => ?_) (fun c63 => ?_)
      · skip
        refine V_iinc_2 d_mo_on_68 rfl ?_
        refine V_goto 45 d_mo_on_71 (by decide) ?_
        refine ih _ _ _ _ hl hc (by omega) (by omega) (fun s s0 s1 => ?_)
        by_cases e : s = i
        · rw [e]; omega
        · exact hs s s0 (by omega)
      · skip
        refine V_iconst 0 d_mo_on_66 ?_
        refine V_ireturn d_mo_on_67 (hR _ _ (by decide) ?_)
        exact no (fun hp => by have := (hp.2.2 i h0 (by omega)).1; omega)
  have hck : A 13 0 3 = A 0 4 0 + 1 → chk (q_up f 219 1 0 220) (A 0 4 0) = chk (fun k => A 14 k 0) (A 0 4 0) := fun e => chk_eq (fun k k0 k1 => by rw [eb]; exact hT.2.1 k k0 (by omega))
  have hcr := chk_rg (fun k => A 14 k 0) (A 0 4 0)
  refine V_aload_0 d_mo_on_0 ?_
  refine V_getI d_mo_on_1 fl_mo_182 is_mo ?_
  rw [el]
  refine V_istore_1 d_mo_on_4 rfl ?_
  refine V_aload_0 d_mo_on_5 ?_
  refine V_iconst 0 d_mo_on_6 ?_
  refine V_putI d_mo_on_7 fl_mo_182 is_mo ?_
  refine V_iload_1 d_mo_on_10 ?_
  refine V_aload_0 d_mo_on_11 ?_
  refine V_cvI0 d_mo_on_12 ml_mo_328 mv_mo_seenMany (by decide) (Nat.le_of_ble_eq_true rfl) is_mo (ok_seenMany hG0) ?_
  rintro _ f2 ⟨rfl, e2⟩
  rw [e2]; clear e2 f2
  refine V_iconst 1 d_mo_on_15 ?_
  refine V_iadd d_mo_on_16 ?_
  refine V_icmp_ne 41 d_mo_on_17 (by decide) (by omega) (by omega) (fun c17 => ?_) (fun c17 => ?_)
  · skip
    refine V_iconst 0 d_mo_on_41 ?_
    refine V_ireturn d_mo_on_42 (hR _ _ (by decide) ?_)
    refine no (fun hp => ?_)
    first | exact c17 hp.1 | exact c38 hp.2.1
  · skip
    have hb := hF.2.2.2.1 (A 0 4 0) (by omega) (by omega)
    have hbe := hT.2.1 (A 0 4 0) (by omega) (by omega)
    have hl1 : A 13 0 3 - 1 = A 0 4 0 := by omega
    refine V_aload_0 d_mo_on_20 ?_
    refine V_getR d_mo_on_21 fl_mo_7 is_mo r_mo_tape ?_
    refine V_iload_1 d_mo_on_24 ?_
    refine V_iconst 1 d_mo_on_25 ?_
    refine V_isub d_mo_on_26 ?_
    rw [hl1]
    refine V_iald d_mo_on_27 is_mo_tape (by omega) (by omega) ?_
    rw [eb, hbe]
    refine V_aload_0 d_mo_on_28 ?_
    refine V_getR d_mo_on_29 fl_mo_7 is_mo r_mo_tape ?_
    refine V_iload_1 d_mo_on_32 ?_
    refine V_iconst 1 d_mo_on_33 ?_
    refine V_isub d_mo_on_34 ?_
    rw [hl1]
    refine V_csI2 d_mo_on_35 ml_mo_535 ms_mo_checked (by decide) (Nat.le_of_ble_eq_true rfl) (ok_checked is_mo_tape (by omega) (by decide) (fun k k0 k1 => by rw [eb, hT.2.1 k k0 (by omega)]; have := hF.2.2.2.1 k k0 (by omega); omega)) ?_
    rintro _ f2 ⟨rfl, e2⟩
    rw [e2]; clear e2 f2
    rw [hck (by omega)]
    refine V_icmp_eq 43 d_mo_on_38 (by decide) (by omega) (by omega) (fun c38 => ?_) (fun c38 => ?_)
    · skip
      refine V_iconst 0 d_mo_on_43 ?_
      refine V_istore_2 d_mo_on_44 rfl ?_
      exact loopA (A 0 4 0).toNat _ _ _ _ (by omega) (by omega) (by omega) (by decide) (fun s a b => by omega)
    · skip
      refine V_iconst 0 d_mo_on_41 ?_
      refine V_ireturn d_mo_on_42 (hR _ _ (by decide) ?_)
      refine no (fun hp => ?_)
      first | exact c17 hp.1 | exact c38 hp.2.1
end MO7
