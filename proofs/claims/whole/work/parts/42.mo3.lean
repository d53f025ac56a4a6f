/-! the reference: seed, days, average, letter -/
section MO3
variable {D : q_D} {f : q_F} {A : q_As} {g h : Int}
theorem mo_seed (hS : Mst f A) {x : Int} (hx : -2147483648 ≤ x ∧ x < 2147483648) : OkI D m_mo_seed [vr D 219, vi x] (Zg g h) f (fun r f' => r = (if x < 0 then 0 else 1) ∧ f' = (if x < 0 then f else q_up f 219 73 x)) := by
  refine OkB_of (L0 := [vr D 219, vi x]) mi_mo_seed rfl rfl (Nat.le_of_ble_eq_true rfl) (fun C hR => ?_)
  refine V_iload_1 d_mo_seed_0 ?_
  refine V_if_ge 6 d_mo_seed_1 (by decide) (by omega) (fun c1 => ?_) (fun c1 => ?_)
  · skip
    refine V_aload_0 d_mo_seed_6 ?_
    refine V_iload_1 d_mo_seed_7 ?_
    refine V_i2l d_mo_seed_8 (by omega) ?_
    refine V_putL d_mo_seed_9 fl_mo_175 is_mo ?_
    refine V_iconst 1 d_mo_seed_12 ?_
    refine V_ireturn d_mo_seed_13 (hR _ _ (by decide) ?_)
    exact ⟨by rw [if_neg (by omega)], by rw [if_neg (by omega)]⟩
  · skip
    refine V_iconst 0 d_mo_seed_4 ?_
    refine V_ireturn d_mo_seed_5 (hR _ _ (by decide) ?_)
    exact ⟨by rw [if_pos (by omega)], by rw [if_pos (by omega)]⟩
theorem ok_drawOf {x : Int} (hx : f 219 73 = x) (hb : 0 ≤ x ∧ x < 2147483648) : OkI D m_mo_drawOf [vr D 219, vi 1000] (Zg g h) f (fun r f' => r = rnd x / 64 % 1000 ∧ f' = q_up f 219 73 (rnd x)) := by
  have hr := rnd_rg x
  refine OkI_of (L0 := [vr D 219, vi 1000]) mi_mo_drawOf rfl rfl (Nat.le_of_ble_eq_true rfl) (fun C hR => ?_)
  refine V_aload_0 d_mo_drawOf_0 ?_
  refine V_ldc2 1103515245 d_mo_drawOf_1 co_mo_515 rfl ?_
  refine V_aload_0 d_mo_drawOf_4 ?_
  refine V_getL d_mo_drawOf_5 fl_mo_175 is_mo ?_
  rw [hx]
  refine V_lmul d_mo_drawOf_8 ?_
  refine V_ldc2 12345 d_mo_drawOf_9 co_mo_517 rfl ?_
  refine V_ladd d_mo_drawOf_12 ?_
  refine V_ldc2 2147483648 d_mo_drawOf_13 co_mo_519 rfl ?_
  refine V_lrem d_mo_drawOf_16 (by omega) (by omega) ?_
  rw [show (1103515245 * x + 12345) % 2147483648 = rnd x from rfl]
  refine V_putL d_mo_drawOf_17 fl_mo_175 is_mo ?_
  refine V_aload_0 d_mo_drawOf_20 ?_
  refine V_getL d_mo_drawOf_21 fl_mo_175 is_mo ?_
  rw [q_up_eq]
  refine V_ldc2 64 d_mo_drawOf_24 co_mo_521 rfl ?_
  refine V_ldiv d_mo_drawOf_27 (by omega) (by omega) ?_
  refine V_iload_1 d_mo_drawOf_28 ?_
  refine V_i2l d_mo_drawOf_29 (by omega) ?_
  refine V_lrem d_mo_drawOf_30 (by omega) (by omega) ?_
  refine V_l2i d_mo_drawOf_31 ?_
  refine V_ireturn d_mo_drawOf_32 (hR _ _ ?_)
  exact ⟨rfl, rfl⟩
theorem ok_priceAt (hG : Mg f A) (hH : Mh f A) (hW : Wg A) (hWh : Wh A) {s : Int} (h0 : 0 ≤ s) (h1 : s < A 0 4 0) (h2 : ¬ A 11 s 0 = -1) : OkI D m_mo_priceAt [vr D 219, vi s] (Zg g h) f (fun r f' => r = A 9 (A 11 s 0) s ∧ f' = f) := by
  have hn := hW.1
  obtain ⟨e, b0, b1⟩ := hH.at hWh h0 h1
  have e2 := (hG.pp hW (k := A 11 s 0) (s := s) (by omega) (by omega)).1.2
  refine OkI_of (L0 := [vr D 219, vi s]) mi_mo_priceAt rfl rfl (Nat.le_of_ble_eq_true rfl) (fun C hR => ?_)
  refine V_aload_0 d_mo_priceAt_0 ?_
  refine V_getR d_mo_priceAt_1 fl_mo_145 is_mo r_mo_priceOf ?_
  refine V_bipush 24 d_mo_priceAt_4 (by decide) ?_
  refine V_aload_0 d_mo_priceAt_6 ?_
  refine V_getR d_mo_priceAt_7 fl_mo_148 is_mo r_mo_hired ?_
  refine V_iload_1 d_mo_priceAt_10 ?_
  refine V_iald d_mo_priceAt_11 is_mo_hired (by omega) (by omega) ?_
  rw [e]
  refine V_imul d_mo_priceAt_12 ?_
  refine V_iload_1 d_mo_priceAt_13 ?_
  refine V_iadd d_mo_priceAt_14 ?_
  refine V_iald d_mo_priceAt_15 is_mo_priceOf (by omega) (by omega) ?_
  refine V_ireturn d_mo_priceAt_16 (hR _ _ ?_)
  exact ⟨e2, rfl⟩
theorem mo_average (hS : Mst f A) (hF : Wf A) : OkI D m_mo_average [vr D 219] (Zg g h) f (fun x f' => x = S_average A ∧ f' = f) := by
  have hn := hF.nn
  obtain ⟨hG, hH, hT⟩ := hS
  have et := hG.2.1
  refine OkI_of (L0 := [vr D 219, vu, vu, vu]) mi_mo_average rfl rfl (Nat.le_of_ble_eq_true rfl) (fun C hR => ?_)
  have loop : ∀ (m : Nat) (s a T : Int) (a3 : Value), s + m = A 0 4 0 → 0 ≤ s → avN A m s a = T → T = S_average A → V D C m_mo_average 4 [vr D 219, vi a, vi s, a3] [] (Zg g h) f := by
    intro m
    induction m with
    | zero =>
      intro s a T a3 hm h0 hr hT
      refine V_iload_2 d_mo_average_4 ?_
      refine V_aload_0 d_mo_average_5 ?_
      refine V_cvI0 d_mo_average_6 ml_mo_328 mv_mo_seenMany (by decide) (Nat.le_of_ble_eq_true rfl) is_mo (ok_seenMany hG) ?_
      rintro _ f2 ⟨rfl, e2⟩
      rw [e2]; clear e2 f2
      refine V_icmp_ge 78 d_mo_average_9 (by decide) (by omega) (by omega) (fun c9 => ?_) (fun c9 => by omega)
      refine V_iload_1 d_mo_average_78 ?_
      refine V_ireturn d_mo_average_79 (hR _ _ ?_)
      exact ⟨by rw [← hT]; exact hr, rfl⟩
    | succ m ih =>
      intro s a T a3 hm h0 hr hT
      obtain ⟨e11, b11, b12⟩ := hH.at hF.2.1 h0 (by omega)
      unfold avN at hr
      refine V_iload_2 d_mo_average_4 ?_
      refine V_aload_0 d_mo_average_5 ?_
      refine V_cvI0 d_mo_average_6 ml_mo_328 mv_mo_seenMany (by decide) (Nat.le_of_ble_eq_true rfl) is_mo (ok_seenMany hG) ?_
      rintro _ f2 ⟨rfl, e2⟩
      rw [e2]; clear e2 f2
      refine V_icmp_ge 78 d_mo_average_9 (by decide) (by omega) (by omega) (fun c9 => by omega) (fun c9 => ?_)
      refine V_aload_0 d_mo_average_12 ?_
      refine V_getR d_mo_average_13 fl_mo_148 is_mo r_mo_hired ?_
      refine V_iload_2 d_mo_average_16 ?_
      refine V_iald d_mo_average_17 is_mo_hired (by omega) (by omega) ?_
      rw [e11]
      refine V_iconst (-1) d_mo_average_18 ?_
      refine V_icmp_ne 25 d_mo_average_19 (by decide) (by omega) (by omega) (fun c19 => ?_) (fun c19 => ?_)
      · skip
        rw [if_neg c19] at hr
        obtain ⟨⟨e8, e9⟩, b8, b9⟩ := hG.pp hF.1 (k := A 11 s 0) (s := s) (by omega) (by omega)
        have hq := q_mulb (m := 999) (n := 100) ⟨b9.1, b9.2⟩ ⟨hn.2.2.2.2.2.2.1, hn.2.2.2.2.2.2.2⟩
        refine V_aload_0 d_mo_average_25 ?_
        refine V_getR d_mo_average_26 fl_mo_142 is_mo r_mo_passOf ?_
        refine V_bipush 24 d_mo_average_29 (by decide) ?_
        refine V_aload_0 d_mo_average_31 ?_
        refine V_getR d_mo_average_32 fl_mo_148 is_mo r_mo_hired ?_
        refine V_iload_2 d_mo_average_35 ?_
        refine V_iald d_mo_average_36 is_mo_hired (by omega) (by omega) ?_
        rw [e11]
        refine V_imul d_mo_average_37 ?_
        refine V_iload_2 d_mo_average_38 ?_
        refine V_iadd d_mo_average_39 ?_
        refine V_iald d_mo_average_40 is_mo_passOf (by omega) (by omega) ?_
        rw [e8]
        refine V_istore_3 d_mo_average_41 rfl ?_
        refine V_iload_1 d_mo_average_42 ?_
        refine V_aload_0 d_mo_average_43 ?_
        refine V_iload_2 d_mo_average_44 ?_
        refine V_cvI1 d_mo_average_45 ml_mo_529 mv_mo_priceAt (by decide) (Nat.le_of_ble_eq_true rfl) is_mo (ok_priceAt hG hH hF.1 hF.2.1 h0 (by omega) c19) ?_
        rintro _ f2 ⟨rfl, e2⟩
        rw [e2]; clear e2 f2
        refine V_aload_0 d_mo_average_48 ?_
        refine V_getI d_mo_average_49 fl_mo_325 is_mo ?_
        rw [et]
        refine V_imul d_mo_average_52 ?_
        refine V_bipush 100 d_mo_average_53 (by decide) ?_
        refine V_idiv d_mo_average_55 (by omega) (by omega) ?_
        refine V_iload_3 d_mo_average_56 ?_
        refine V_imul d_mo_average_57 ?_
        refine V_aload_0 d_mo_average_58 ?_
        refine V_iload_2 d_mo_average_59 ?_
        refine V_cvI1 d_mo_average_60 ml_mo_529 mv_mo_priceAt (by decide) (Nat.le_of_ble_eq_true rfl) is_mo (ok_priceAt hG hH hF.1 hF.2.1 h0 (by omega) c19) ?_
        rintro _ f2 ⟨rfl, e2⟩
        rw [e2]; clear e2 f2
        refine V_sipush 1000 d_mo_average_63 (by decide) ?_
        refine V_iload_3 d_mo_average_66 ?_
        refine V_isub d_mo_average_67 ?_
        refine V_imul d_mo_average_68 ?_
        refine V_isub d_mo_average_69 ?_
        refine V_iadd d_mo_average_70 ?_
        refine V_istore_1 d_mo_average_71 rfl ?_
        refine V_iinc_2 d_mo_average_72 rfl ?_
        refine V_goto 4 d_mo_average_75 (by decide) ?_
        refine ih _ _ _ _ (by omega) (by omega) ?_ hT
        rw [← hr]; congr 1; omega
      · skip
        rw [if_pos (by omega)] at hr
        refine V_goto 72 d_mo_average_22 (by decide) ?_
        refine V_iinc_2 d_mo_average_72 rfl ?_
        refine V_goto 4 d_mo_average_75 (by decide) ?_
        exact ih _ _ _ _ (by omega) (by omega) hr hT
  refine V_iconst 0 d_mo_average_0 ?_
  refine V_istore_1 d_mo_average_1 rfl ?_
  refine V_iconst 0 d_mo_average_2 ?_
  refine V_istore_2 d_mo_average_3 rfl ?_
  exact loop (A 0 4 0).toNat _ _ _ _ (by omega) (by decide) rfl rfl
theorem Mst.drawn (hS : Mst f A) (x : Int) : Mst (q_up f 219 73 x) (A_drawn A x) := by
  obtain ⟨hG, hH, hT⟩ := hS
  have hB : ∀ j, j ≠ 4 → A_drawn A x 13 0 j = A 13 0 j := fun j hj => by unfold A_drawn; rw [if_neg (fun e => hj e.2.2)]
  have hu : ∀ {a b : Int}, ¬ b = 73 → q_up f 219 73 x a b = f a b := fun h => q_up_ne (Or.inr h)
  refine ⟨?_, ?_, ?_⟩
  · obtain ⟨⟨c1, c2, c3, c4, c5, c6⟩, d1, d2, d3, d4, d5, d6, d7, d8, d9, d10⟩ := hG
    refine ⟨⟨?_, ?_, ?_, ?_, ?_, ?_⟩, ?_, fun i w a b c d => ?_, fun t w a b c d => ?_, fun p t a b c d => ?_, fun p t a b c d => ?_, fun p a b => ?_, fun p t a b c d => ?_, fun p t a b c d => ?_, fun p t a b c d => ?_, fun s a b => ?_⟩
    · rw [q_up_at (by decide)]; exact c1
    · rw [q_up_at (by decide)]; exact c2
    · rw [q_up_at (by decide)]; exact c3
    · rw [q_up_at (by decide)]; exact c4
    · rw [q_up_at (by decide)]; exact c5
    · rw [q_up_at (by decide)]; exact c6
    · rw [hu (by decide)]; exact d1
    · rw [q_up_at (by decide)]; exact d2 i w a b c d
    · rw [q_up_at (by decide)]; exact d3 t w a b c d
    · rw [q_up_at (by decide)]; exact d4 p t a b c d
    · rw [q_up_at (by decide), q_up_at (by decide)]; exact d5 p t a b c d
    · rw [q_up_at (by decide)]; exact d6 p a b
    · rw [q_up_at (by decide)]; exact d7 p t a b c d
    · rw [q_up_at (by decide)]; exact d8 p t a b c d
    · rw [q_up_at (by decide), q_up_at (by decide)]; exact d9 p t a b c d
    · rw [q_up_at (by decide)]; exact d10 s a b
  · obtain ⟨c1, c2, c3, c4⟩ := hH
    refine ⟨fun s a b => ?_, ?_, ?_, fun n s a b c d => ?_⟩
    · rw [q_up_at (by decide)]; exact c1 s a b
    · rw [hu (by decide), hB _ (by decide)]; exact c2
    · rw [hu (by decide)]; exact c3
    · rw [hB _ (by decide)] at b
      rw [hu (b := 65) (by decide), q_up_at (by decide)]
      exact c4 n s a b c d
  · obtain ⟨c1, c2, c3, c4, c5, c6, c7⟩ := hT
    refine ⟨?_, fun k a b => ?_, ?_, ?_, ?_, ?_, fun k a b => ?_⟩
    · rw [hu (by decide), hB _ (by decide)]; exact c1
    · rw [hB _ (by decide)] at b; rw [q_up_at (by decide)]; exact c2 k a b
    · rw [hu (by decide), hB _ (by decide)]; exact c3
    · rw [hu (by decide), hB _ (by decide)]; exact c4
    · rw [q_up_eq]; unfold A_drawn; rw [if_pos ⟨rfl, rfl, rfl⟩]
    · rw [hu (by decide), hB _ (by decide)]; exact c6
    · rw [hB _ (by decide)] at b; rw [q_up_at (by decide)]; exact c7 k a b
theorem mo_days (hS : Mst f A) (hF : Wf A) {n w : Int} (hn1 : -2147483648 ≤ n ∧ n < 2147483648) (hw : -2147483648 ≤ w ∧ w < 2147483648) : OkI D m_mo_days [vr D 219, vi n, vi w] (Zg g h) f (fun r f' => r = S_days A n w ∧ (f' = if (1 ≤ n ∧ n ≤ 100) ∧ (0 ≤ w ∧ w ≤ 1) then q_up f 219 73 (dyN A n.toNat (A 13 0 4) 0 0).1 else f)) := by
  have hn := hF.nn
  have hS' := hS
  obtain ⟨hG, hH, hT⟩ := hS'
  have hGx : ∀ x, Mg (q_up f 219 73 x) A := fun x => (hS.drawn x).1
  have hHx : ∀ x, Mh (q_up f 219 73 x) A := fun x => (hS.drawn x).2.1
  refine OkI_of (L0 := [vr D 219, vi n, vi w, vu, vu, vu, vu]) mi_mo_days rfl rfl (Nat.le_of_ble_eq_true rfl) (fun C hR => ?_)
  by_cases hv : (1 ≤ n ∧ n ≤ 100) ∧ (0 ≤ w ∧ w ≤ 1)
  · simp only [if_pos hv] at hR
    have inner : ∀ (m : Nat) (s x a b d x' a' b' : Int) (K : V D C m_mo_days 132 [vr D 219, vi n, vi w, vi a', vi b', vi d, vi (A 0 4 0)] [] (Zg g h) (q_up f 219 73 x')), s + m = A 0 4 0 → 0 ≤ s → (0 ≤ x ∧ x < 2147483648) → dsN A m s x a b = (x', a', b') → V D C m_mo_days 43 [vr D 219, vi n, vi w, vi a, vi b, vi d, vi s] [] (Zg g h) (q_up f 219 73 x) := by
      intro m
      induction m with
      | zero =>
        intro s x a b d x' a' b' K hm h0 hx hr
        unfold dsN at hr
        cases hr
        have hs : s = A 0 4 0 := by omega
        subst hs
        refine V_iload_6 d_mo_days_43 ?_
        refine V_aload_0 d_mo_days_45 ?_
        refine V_cvI0 d_mo_days_46 ml_mo_328 mv_mo_seenMany (by decide) (Nat.le_of_ble_eq_true rfl) is_mo (ok_seenMany (hGx x)) ?_
        rintro _ f2 ⟨rfl, e2⟩
        rw [e2]; clear e2 f2
        refine V_icmp_ge 132 d_mo_days_49 (by decide) (by omega) (by omega) (fun c49 => ?_) (fun c49 => by omega)
        exact K
      | succ m ih =>
        intro s x a b d x' a' b' K hm h0 hx hr
        have hGy := hGx (rnd x)
        have hHy := hHx (rnd x)
        have et := hGy.2.1
        obtain ⟨e11, b11, b12⟩ := (hHx x).at hF.2.1 h0 (by omega)
        obtain ⟨f11, -⟩ := hHy.at hF.2.1 h0 (by omega)
        have hrr := rnd_rg x
        unfold dsN at hr
        refine V_iload_6 d_mo_days_43 ?_
        refine V_aload_0 d_mo_days_45 ?_
        refine V_cvI0 d_mo_days_46 ml_mo_328 mv_mo_seenMany (by decide) (Nat.le_of_ble_eq_true rfl) is_mo (ok_seenMany (hGx x)) ?_
        rintro _ f2 ⟨rfl, e2⟩
        rw [e2]; clear e2 f2
        refine V_icmp_ge 132 d_mo_days_49 (by decide) (by omega) (by omega) (fun c49 => by omega) (fun c49 => ?_)
        refine V_aload_0 d_mo_days_52 ?_
        refine V_getR d_mo_days_53 fl_mo_148 is_mo r_mo_hired ?_
        refine V_iload_6 d_mo_days_56 ?_
        refine V_iald d_mo_days_58 is_mo_hired (by omega) (by omega) ?_
        rw [e11]
        refine V_iconst (-1) d_mo_days_59 ?_
        refine V_icmp_ne 66 d_mo_days_60 (by decide) (by omega) (by omega) (fun c60 => ?_) (fun c60 => ?_)
        · skip
          rw [if_neg c60] at hr
          obtain ⟨⟨e8, e9⟩, b8, b9⟩ := hGy.pp hF.1 (k := A 11 s 0) (s := s) (by omega) (by omega)
          have hq := q_mulb (m := 999) (n := 100) ⟨b9.1, b9.2⟩ ⟨hn.2.2.2.2.2.2.1, hn.2.2.2.2.2.2.2⟩
          refine V_aload_0 d_mo_days_66 ?_
          refine V_sipush 1000 d_mo_days_67 (by decide) ?_
          refine V_cvI1 d_mo_days_70 ml_mo_526 mv_mo_drawOf (by decide) (Nat.le_of_ble_eq_true rfl) is_mo (ok_drawOf (q_up_eq _ _ _ _) hx) ?_
          rintro _ f2 ⟨rfl, e2⟩
          rw [e2]; clear e2 f2
          rw [q_up_up]
          refine V_aload_0 d_mo_days_73 ?_
          refine V_getR d_mo_days_74 fl_mo_142 is_mo r_mo_passOf ?_
          refine V_bipush 24 d_mo_days_77 (by decide) ?_
          refine V_aload_0 d_mo_days_79 ?_
          refine V_getR d_mo_days_80 fl_mo_148 is_mo r_mo_hired ?_
          refine V_iload_6 d_mo_days_83 ?_
          refine V_iald d_mo_days_85 is_mo_hired (by omega) (by omega) ?_
          rw [f11]
          refine V_imul d_mo_days_86 ?_
          refine V_iload_6 d_mo_days_87 ?_
          refine V_iadd d_mo_days_89 ?_
          refine V_iald d_mo_days_90 is_mo_passOf (by omega) (by omega) ?_
          rw [e8]
          refine V_icmp_ge 114 d_mo_days_91 (by decide) (by omega) (by omega) (fun c91 => ?_) (fun c91 => ?_)
          · skip
            rw [if_neg (by omega)] at hr
            refine V_iload_3 d_mo_days_114 ?_
            refine V_aload_0 d_mo_days_115 ?_
            refine V_iload_6 d_mo_days_116 ?_
            refine V_cvI1 d_mo_days_118 ml_mo_529 mv_mo_priceAt (by decide) (Nat.le_of_ble_eq_true rfl) is_mo (ok_priceAt hGy hHy hF.1 hF.2.1 h0 (by omega) c60) ?_
            rintro _ f2 ⟨rfl, e2⟩
            rw [e2]; clear e2 f2
            refine V_isub d_mo_days_121 ?_
            refine V_istore_3 d_mo_days_122 rfl ?_
            refine V_iinc_4 d_mo_days_123 rfl ?_
            refine V_iinc_6 d_mo_days_126 rfl ?_
            refine V_goto 43 d_mo_days_129 (by decide) ?_
            exact ih _ _ _ _ _ _ _ _ K (by omega) (by omega) hrr hr
          · skip
            rw [if_pos (by omega)] at hr
            refine V_iload_3 d_mo_days_94 ?_
            refine V_aload_0 d_mo_days_95 ?_
            refine V_iload_6 d_mo_days_96 ?_
            refine V_cvI1 d_mo_days_98 ml_mo_529 mv_mo_priceAt (by decide) (Nat.le_of_ble_eq_true rfl) is_mo (ok_priceAt hGy hHy hF.1 hF.2.1 h0 (by omega) c60) ?_
            rintro _ f2 ⟨rfl, e2⟩
            rw [e2]; clear e2 f2
            refine V_aload_0 d_mo_days_101 ?_
            refine V_getI d_mo_days_102 fl_mo_325 is_mo ?_
            rw [et]
            refine V_imul d_mo_days_105 ?_
            refine V_bipush 100 d_mo_days_106 (by decide) ?_
            refine V_idiv d_mo_days_108 (by omega) (by omega) ?_
            refine V_iadd d_mo_days_109 ?_
            refine V_istore_3 d_mo_days_110 rfl ?_
            refine V_goto 126 d_mo_days_111 (by decide) ?_
            refine V_iinc_6 d_mo_days_126 rfl ?_
            refine V_goto 43 d_mo_days_129 (by decide) ?_
            exact ih _ _ _ _ _ _ _ _ K (by omega) (by omega) hrr hr
        · skip
          rw [if_pos (by omega)] at hr
          refine V_goto 126 d_mo_days_63 (by decide) ?_
          refine V_iinc_6 d_mo_days_126 rfl ?_
          refine V_goto 43 d_mo_days_129 (by decide) ?_
          exact ih _ _ _ _ _ _ _ _ K (by omega) (by omega) hx hr
    have outer : ∀ (m : Nat) (d x a b : Int) (a6 : Value), d + m = n → 0 ≤ d → (0 ≤ x ∧ x < 2147483648) → dyN A m x a b = dyN A n.toNat (A 13 0 4) 0 0 → V D C m_mo_days 34 [vr D 219, vi n, vi w, vi a, vi b, vi d, a6] [] (Zg g h) (q_up f 219 73 x) := by
      intro m
      induction m with
      | zero =>
        intro d x a b a6 hm h0 hx hr
        generalize hT : dyN A n.toNat (A 13 0 4) 0 0 = T at *
        unfold dyN at hr
        subst hr
        refine V_iload_5 d_mo_days_34 ?_
        refine V_iload_1 d_mo_days_36 ?_
        refine V_icmp_ge 138 d_mo_days_37 (by decide) (by omega) (by omega) (fun c37 => ?_) (fun c37 => by omega)
        refine V_iload_2 d_mo_days_138 ?_
        refine V_if_ne 146 d_mo_days_139 (by decide) (by omega) (fun c139 => ?_) (fun c139 => ?_)
        · skip
          refine V_iload_4 d_mo_days_146 ?_
          refine V_ireturn d_mo_days_148 (hR _ _ ?_)
          refine ⟨?_, rfl⟩
          unfold S_days; rw [if_pos hv, if_neg c139, hT]
        · skip
          refine V_iload_3 d_mo_days_142 ?_
          refine V_goto 148 d_mo_days_143 (by decide) ?_
          refine V_ireturn d_mo_days_148 (hR _ _ ?_)
          refine ⟨?_, rfl⟩
          unfold S_days; rw [if_pos hv, if_pos (by omega), hT]
      | succ m ih =>
        intro d x a b a6 hm h0 hx hr
        generalize hT : dyN A n.toNat (A 13 0 4) 0 0 = T at *
        unfold dyN at hr
        have hx2 := dsN_rg hF (A 0 4 0).toNat 0 x a b hx
        generalize hds : dsN A (A 0 4 0).toNat 0 x a b = U at *
        have K : V D C m_mo_days 132 [vr D 219, vi n, vi w, vi U.2.1, vi U.2.2, vi d, vi (A 0 4 0)] [] (Zg g h) (q_up f 219 73 U.1) := by
          refine V_iinc_5 d_mo_days_132 rfl ?_
          refine V_goto 34 d_mo_days_135 (by decide) ?_
          exact ih _ _ _ _ _ (by omega) (by omega) hx2 hr
        refine V_iload_5 d_mo_days_34 ?_
        refine V_iload_1 d_mo_days_36 ?_
        refine V_icmp_ge 138 d_mo_days_37 (by decide) (by omega) (by omega) (fun c37 => by omega) (fun c37 => ?_)
        refine V_iconst 0 d_mo_days_40 ?_
        refine V_istore_6 d_mo_days_41 rfl ?_
        exact inner (A 0 4 0).toNat 0 x a b d _ _ _ K (by omega) (by decide) hx hds
    refine V_iload_1 d_mo_days_0 ?_
    refine V_i2l d_mo_days_1 (by omega) ?_
    refine V_lconst1 d_mo_days_2 ?_
    refine V_ldc2 100 d_mo_days_3 co_mo_523 rfl ?_
    refine V_csI3 d_mo_days_6 ml_mo_225 ms_mo_isIn (by decide) (Nat.le_of_ble_eq_true rfl) (ok_isIn (by omega) (by omega) (by omega)) ?_
    rintro x6 f2 ⟨hx6, e2⟩
    rw [e2]; clear e2 f2
    refine V_if_eq 22 d_mo_days_9 (by decide) (by omega) (fun c9 => by omega) (fun c9 => ?_)
    refine V_iload_2 d_mo_days_12 ?_
    refine V_i2l d_mo_days_13 (by omega) ?_
    refine V_lconst0 d_mo_days_14 ?_
    refine V_lconst1 d_mo_days_15 ?_
    refine V_csI3 d_mo_days_16 ml_mo_225 ms_mo_isIn (by decide) (Nat.le_of_ble_eq_true rfl) (ok_isIn (by omega) (by omega) (by omega)) ?_
    rintro x16 f2 ⟨hx16, e2⟩
    rw [e2]; clear e2 f2
    refine V_if_ne 26 d_mo_days_19 (by decide) (by omega) (fun c19 => ?_) (fun c19 => by omega)
    refine V_iconst 0 d_mo_days_26 ?_
    refine V_istore_3 d_mo_days_27 rfl ?_
    refine V_iconst 0 d_mo_days_28 ?_
    refine V_istore_4 d_mo_days_29 rfl ?_
    refine V_iconst 0 d_mo_days_31 ?_
    refine V_istore_5 d_mo_days_32 rfl ?_
    refine (?_ : V D C m_mo_days 34 _ _ _ _)
    rw [show f = q_up f 219 73 (A 13 0 4) by rw [← hT.2.2.2.2.1, q_up_self]]
    exact outer n.toNat _ _ _ _ _ (by omega) (by decide) hF.2.2.2.2.2.2.1 rfl
  · simp only [if_neg hv] at hR
    have hx : S_days A n w = -1000000000 := by unfold S_days; rw [if_neg hv]
    refine V_iload_1 d_mo_days_0 ?_
    refine V_i2l d_mo_days_1 (by omega) ?_
    refine V_lconst1 d_mo_days_2 ?_
    refine V_ldc2 100 d_mo_days_3 co_mo_523 rfl ?_
    refine V_csI3 d_mo_days_6 ml_mo_225 ms_mo_isIn (by decide) (Nat.le_of_ble_eq_true rfl) (ok_isIn (by omega) (by omega) (by omega)) ?_
    rintro x6 f2 ⟨hx6, e2⟩
    rw [e2]; clear e2 f2
    refine V_if_eq 22 d_mo_days_9 (by decide) (by omega) (fun c9 => ?_) (fun c9 => ?_)
    · skip
      refine V_ldcw (-1000000000) d_mo_days_22 co_mo_525 rfl ?_
      refine V_ireturn d_mo_days_25 (hR _ _ ?_)
      exact ⟨hx.symm, rfl⟩
    · skip
      refine V_iload_2 d_mo_days_12 ?_
      refine V_i2l d_mo_days_13 (by omega) ?_
      refine V_lconst0 d_mo_days_14 ?_
      refine V_lconst1 d_mo_days_15 ?_
      refine V_csI3 d_mo_days_16 ml_mo_225 ms_mo_isIn (by decide) (Nat.le_of_ble_eq_true rfl) (ok_isIn (by omega) (by omega) (by omega)) ?_
      rintro x16 f2 ⟨hx16, e2⟩
      rw [e2]; clear e2 f2
      refine V_if_ne 26 d_mo_days_19 (by decide) (by omega) (fun c19 => ?_) (fun c19 => ?_)
      · skip
        omega
      · skip
        refine V_ldcw (-1000000000) d_mo_days_22 co_mo_525 rfl ?_
        refine V_ireturn d_mo_days_25 (hR _ _ ?_)
        exact ⟨hx.symm, rfl⟩
end MO3
