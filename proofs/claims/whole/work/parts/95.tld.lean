/-! the reference reckons codes -/
/-- the pile in the reference's cells -/
def pS (f : q_F) (st : List Int) : Prop := f 219 57 = st.length ∧ ∀ i : Nat, i < st.length → f 260 i = st.getD (st.length - 1 - i) 0
def kaS (f : q_F) (E : Int → Int) : Prop := f 261 0 = E 7 ∧ f 261 1 = E 8 ∧ f 261 2 = E 9 ∧ f 261 3 = E 10 ∧ f 261 4 = E 18 ∧ f 261 5 = E 19
def lK (f f' : q_F) : Prop := ∀ j k, ¬ j = 260 → ¬ (j = 219 ∧ k = 57) → f' j k = f j k
section TLD
variable {D : q_D} {f f' f'' : q_F} {A : q_As} {g h : Int} {E : Int → Int}
theorem lK.refl (f : q_F) : lK f f := fun _ _ _ _ => rfl
theorem lK.tr (h1 : lK f f') (h2 : lK f' f'') : lK f f'' := fun j k a b => by rw [h2 j k a b]; exact h1 j k a b
theorem kaS.fr (h : kaS f E) (hk : lK f f') : kaS f' E := by
  obtain ⟨h1, h2, h3, h4, h5, h6⟩ := h
  exact ⟨by rw [hk _ _ (by decide) (by decide)]; exact h1, by rw [hk _ _ (by decide) (by decide)]; exact h2, by rw [hk _ _ (by decide) (by decide)]; exact h3, by rw [hk _ _ (by decide) (by decide)]; exact h4, by rw [hk _ _ (by decide) (by decide)]; exact h5, by rw [hk _ _ (by decide) (by decide)]; exact h6⟩
theorem pS.top {x : Int} {st : List Int} (hK : pS f (x :: st)) : f 219 57 = (st.length : Int) + 1 ∧ f 260 st.length = x := by
  refine ⟨by rw [hK.1, List.length_cons]; push_cast; rfl, ?_⟩
  rw [hK.2 st.length (by rw [List.length_cons]; omega), List.length_cons, show st.length + 1 - 1 - st.length = 0 by omega]; rfl
theorem pS.pop {x : Int} {st : List Int} (hK : pS f (x :: st)) (h1 : f' 219 57 = st.length) (h2 : ∀ k, f' 260 k = f 260 k) : pS f' st := by
  refine ⟨h1, fun i hi => ?_⟩
  rw [h2, hK.2 i (by rw [List.length_cons]; omega), List.length_cons, show st.length + 1 - 1 - i = (st.length - 1 - i) + 1 by omega]; rfl
theorem pS.push {x : Int} {st : List Int} (hK : pS f st) (h1 : f' 219 57 = (st.length : Int) + 1) (h2 : f' 260 st.length = x) (h3 : ∀ k : Int, ¬ k = st.length → f' 260 k = f 260 k) : pS f' (x :: st) := by
  refine ⟨by rw [h1, List.length_cons]; push_cast; rfl, fun i hi => ?_⟩
  rw [List.length_cons] at hi ⊢
  by_cases e : i = st.length
  · subst e; rw [h2, show st.length + 1 - 1 - st.length = 0 by omega]; rfl
  · rw [h3 _ (by omega), hK.2 i (by omega), show st.length + 1 - 1 - i = (st.length - 1 - i) + 1 by omega]; rfl
theorem ok_puts {st : List Int} (hK : pS f st) (hl : st.length < 1700) {v : Int} : OkV D m_mo_puts [vr D 219, vl v] (Zg g h) f (fun f' => pS f' (v :: st) ∧ lK f f') := by
  have h1 := hK.1
  refine OkV_of (L0 := [vr D 219, vl v, vu]) mi_mo_puts rfl rfl (Nat.le_of_ble_eq_true rfl) (fun C hR => ?_)
  refine V_aload_0 d_mo_puts_0 ?_
  refine V_getR d_mo_puts_1 fl_mo_136 is_mo r_mo_pile ?_
  refine V_aload_0 d_mo_puts_4 ?_
  refine V_getI d_mo_puts_5 fl_mo_390 is_mo ?_
  rw [h1]
  refine V_lload_1 d_mo_puts_8 ?_
  refine V_last d_mo_puts_9 is_mo_pile (by omega) (by omega) ?_
  refine V_aload_0 d_mo_puts_10 ?_
  refine V_dup d_mo_puts_11 rfl ?_
  refine V_getI d_mo_puts_12 fl_mo_390 is_mo ?_
  rw [q_up_ne (by omega), h1]
  refine V_iconst 1 d_mo_puts_15 ?_
  refine V_iadd d_mo_puts_16 ?_
  refine V_putI d_mo_puts_17 fl_mo_390 is_mo ?_
  refine V_return d_mo_puts_20 (hR _ ?_)
  refine ⟨hK.push ?_ ?_ (fun k hk => ?_), fun j k a b => ?_⟩
  · rw [q_up_eq]
  · rw [q_up_ne (by omega), q_up_eq]
  · rw [q_up_ne (by omega), q_up_ne (Or.inr hk)]
  · rw [q_up_ne (by omega), q_up_at a]
theorem ok_clip {x : Int} (hx : -9000000000000 ≤ x ∧ x ≤ 9000000000000) : OkL D m_mo_clip [vl x] (Zg g h) f (fun r f' => r = clp x ∧ f' = f) := by
  refine OkL_of (L0 := [vl x, vu]) mi_mo_clip rfl rfl (Nat.le_of_ble_eq_true rfl) (fun C hR => ?_)
  refine V_lload_0 d_mo_clip_0 ?_
  refine V_ldc2 1000000 d_mo_clip_1 co_mo_386 rfl ?_
  refine V_lcmp_le 14 d_mo_clip_4 d_mo_clip_5 (by decide) (by omega) (by omega) (fun c4 => ?_) (fun c4 => ?_)
  · skip
    refine V_lload_0 d_mo_clip_14 ?_
    refine V_ldc2 (-1000000) d_mo_clip_15 co_mo_388 rfl ?_
    refine V_lcmp_ge 28 d_mo_clip_18 d_mo_clip_19 (by decide) (by omega) (by omega) (fun c18 => ?_) (fun c18 => ?_)
    · skip
      refine V_lload_0 d_mo_clip_28 ?_
      refine V_lreturn d_mo_clip_29 (hR _ _ ?_)
      refine ⟨?_, rfl⟩; unfold clp; split <;> (try split) <;> omega
    · skip
      refine V_ldc2 (-1000000) d_mo_clip_22 co_mo_388 rfl ?_
      refine V_goto 29 d_mo_clip_25 (by decide) ?_
      refine V_lreturn d_mo_clip_29 (hR _ _ ?_)
      refine ⟨?_, rfl⟩; unfold clp; split <;> (try split) <;> omega
  · skip
    refine V_ldc2 1000000 d_mo_clip_8 co_mo_386 rfl ?_
    refine V_goto 29 d_mo_clip_11 (by decide) ?_
    refine V_lreturn d_mo_clip_29 (hR _ _ ?_)
    refine ⟨?_, rfl⟩; unfold clp; split <;> (try split) <;> omega
theorem ok_floor {x y : Int} (hx : bd6 x) (hy : bd6 y) : OkL D m_mo_floor [vl x, vl y] (Zg g h) f (fun r f' => r = flr x y ∧ f' = f) := by
  refine OkL_of (L0 := [vl x, vu, vl y, vu, vu, vu]) mi_mo_floor rfl rfl (Nat.le_of_ble_eq_true rfl) (fun C hR => ?_)
  by_cases h0 : y = 0
  · skip
    refine V_lload_2 d_mo_floor_0 ?_
    refine V_lconst0 d_mo_floor_1 ?_
    refine V_lcmp_ne 8 d_mo_floor_2 d_mo_floor_3 (by decide) (by omega) (by omega) (fun c2 => by omega) (fun c2 => ?_)
    refine V_lconst0 d_mo_floor_6 ?_
    refine V_lreturn d_mo_floor_7 (hR _ _ ?_)
    exact ⟨by unfold flr; rw [if_pos h0], rfl⟩
  · have hn2 : (x.tdiv y).natAbs ≤ x.natAbs := by
      rw [Int.natAbs_tdiv]; exact Nat.div_le_self _ _
    have hn3 : (x.tmod y).natAbs ≤ x.natAbs := by
      rw [Int.natAbs_tmod]; exact Nat.mod_le _ _
    have K53 : ¬ (¬ x.tmod y = 0 ∧ ¬ (x < 0 ↔ y < 0)) → V D C m_mo_floor 53 [vl x, vu, vl y, vu, vl (x.tdiv y), vu] [] (Zg g h) f := by
      intro hc
      refine V_lload_4 d_mo_floor_53 ?_
      refine V_lreturn d_mo_floor_55 (hR _ _ ?_)
      exact ⟨by unfold flr; rw [if_neg h0, if_neg hc], rfl⟩
    have K46 : (¬ x.tmod y = 0 ∧ ¬ (x < 0 ↔ y < 0)) → V D C m_mo_floor 46 [vl x, vu, vl y, vu, vl (x.tdiv y), vu] [] (Zg g h) f := by
      intro hc
      refine V_lload_4 d_mo_floor_46 ?_
      refine V_lconst1 d_mo_floor_48 ?_
      refine V_lsub d_mo_floor_49 ?_
      refine V_goto 55 d_mo_floor_50 (by decide) ?_
      refine V_lreturn d_mo_floor_55 (hR _ _ ?_)
      exact ⟨by unfold flr; rw [if_neg h0, if_pos hc], rfl⟩
    refine V_lload_2 d_mo_floor_0 ?_
    refine V_lconst0 d_mo_floor_1 ?_
    refine V_lcmp_ne 8 d_mo_floor_2 d_mo_floor_3 (by decide) (by omega) (by omega) (fun c2 => ?_) (fun c2 => by omega)
    refine V_lload_0 d_mo_floor_8 ?_
    refine V_lload_2 d_mo_floor_9 ?_
    refine V_ldivT d_mo_floor_10 (by omega) (by omega) h0 ?_
    refine V_lstore_4 d_mo_floor_11 rfl ?_
    refine V_lload_0 d_mo_floor_13 ?_
    refine V_lload_2 d_mo_floor_14 ?_
    refine V_lremT d_mo_floor_15 (by omega) (by omega) h0 ?_
    refine V_lconst0 d_mo_floor_16 ?_
    refine V_lcmp_eq 53 d_mo_floor_17 d_mo_floor_18 (by decide) (by omega) (by omega) (fun c17 => ?_) (fun c17 => ?_)
    · skip
      exact K53 (by omega)
    · skip
      refine V_lload_0 d_mo_floor_21 ?_
      refine V_lconst0 d_mo_floor_22 ?_
      refine V_lcmp_ge 31 d_mo_floor_23 d_mo_floor_24 (by decide) (by omega) (by omega) (fun c23 => ?_) (fun c23 => ?_)
      · skip
        refine V_iconst 0 d_mo_floor_31 ?_
        refine V_lload_2 d_mo_floor_32 ?_
        refine V_lconst0 d_mo_floor_33 ?_
        refine V_lcmp_ge 42 d_mo_floor_34 d_mo_floor_35 (by decide) (by omega) (by omega) (fun c34 => ?_) (fun c34 => ?_)
        · skip
          refine V_iconst 0 d_mo_floor_42 ?_
          refine V_icmp_eq 53 d_mo_floor_43 (by decide) (by decide) (by decide) (fun c43 => ?_) (fun c43 => ?_)
          · skip
            exact K53 (by omega)
          · skip
            exact K46 (by omega)
        · skip
          refine V_iconst 1 d_mo_floor_38 ?_
          refine V_goto 43 d_mo_floor_39 (by decide) ?_
          refine V_icmp_eq 53 d_mo_floor_43 (by decide) (by decide) (by decide) (fun c43 => ?_) (fun c43 => ?_)
          · skip
            exact K53 (by omega)
          · skip
            exact K46 (by omega)
      · skip
        refine V_iconst 1 d_mo_floor_27 ?_
        refine V_goto 32 d_mo_floor_28 (by decide) ?_
        refine V_lload_2 d_mo_floor_32 ?_
        refine V_lconst0 d_mo_floor_33 ?_
        refine V_lcmp_ge 42 d_mo_floor_34 d_mo_floor_35 (by decide) (by omega) (by omega) (fun c34 => ?_) (fun c34 => ?_)
        · skip
          refine V_iconst 0 d_mo_floor_42 ?_
          refine V_icmp_eq 53 d_mo_floor_43 (by decide) (by decide) (by decide) (fun c43 => ?_) (fun c43 => ?_)
          · skip
            exact K53 (by omega)
          · skip
            exact K46 (by omega)
        · skip
          refine V_iconst 1 d_mo_floor_38 ?_
          refine V_goto 43 d_mo_floor_39 (by decide) ?_
          refine V_icmp_eq 53 d_mo_floor_43 (by decide) (by decide) (by decide) (fun c43 => ?_) (fun c43 => ?_)
          · skip
            exact K53 (by omega)
          · skip
            exact K46 (by omega)
theorem ok_asked (hk : kaS f E) {c : Int} (hc : isWd c) : OkI D m_mo_asked [vr D 219, vi c] (Zg g h) f (fun x f' => x = E c ∧ f' = f) := by
  obtain ⟨h1, h2, h3, h4, h5, h6⟩ := hk
  have hc2 : c = 7 ∨ c = 8 ∨ c = 9 ∨ c = 10 ∨ c = 18 ∨ c = 19 := by unfold isWd at hc; omega
  rcases hc2 with rfl | rfl | rfl | rfl | rfl | rfl
  · skip
    refine OkI_of (L0 := [vr D 219, vi 7]) mi_mo_asked rfl rfl (Nat.le_of_ble_eq_true rfl) (fun C hR => ?_)
    refine V_iload_1 d_mo_asked_0 ?_
    refine V_bipush 18 d_mo_asked_1 (by decide) ?_
    refine V_icmp_ne 15 d_mo_asked_3 (by decide) (by omega) (by omega) (fun c3 => ?_) (fun c3 => by omega)
    refine V_iload_1 d_mo_asked_15 ?_
    refine V_bipush 19 d_mo_asked_16 (by decide) ?_
    refine V_icmp_ne 30 d_mo_asked_18 (by decide) (by omega) (by omega) (fun c18 => ?_) (fun c18 => by omega)
    refine V_aload_0 d_mo_asked_30 ?_
    refine V_getR d_mo_asked_31 fl_mo_139 is_mo r_mo_ask ?_
    refine V_iload_1 d_mo_asked_34 ?_
    refine V_bipush 7 d_mo_asked_35 (by decide) ?_
    refine V_isub d_mo_asked_37 ?_
    rw [show (7 : Int) - 7 = 0 by decide]
    refine V_iald d_mo_asked_38 is_mo_ask (by omega) (by omega) ?_
    rw [h1]
    refine V_ireturn d_mo_asked_39 (hR _ _ ?_)
    exact ⟨rfl, rfl⟩
  · skip
    refine OkI_of (L0 := [vr D 219, vi 8]) mi_mo_asked rfl rfl (Nat.le_of_ble_eq_true rfl) (fun C hR => ?_)
    refine V_iload_1 d_mo_asked_0 ?_
    refine V_bipush 18 d_mo_asked_1 (by decide) ?_
    refine V_icmp_ne 15 d_mo_asked_3 (by decide) (by omega) (by omega) (fun c3 => ?_) (fun c3 => by omega)
    refine V_iload_1 d_mo_asked_15 ?_
    refine V_bipush 19 d_mo_asked_16 (by decide) ?_
    refine V_icmp_ne 30 d_mo_asked_18 (by decide) (by omega) (by omega) (fun c18 => ?_) (fun c18 => by omega)
    refine V_aload_0 d_mo_asked_30 ?_
    refine V_getR d_mo_asked_31 fl_mo_139 is_mo r_mo_ask ?_
    refine V_iload_1 d_mo_asked_34 ?_
    refine V_bipush 7 d_mo_asked_35 (by decide) ?_
    refine V_isub d_mo_asked_37 ?_
    rw [show (8 : Int) - 7 = 1 by decide]
    refine V_iald d_mo_asked_38 is_mo_ask (by omega) (by omega) ?_
    rw [h2]
    refine V_ireturn d_mo_asked_39 (hR _ _ ?_)
    exact ⟨rfl, rfl⟩
  · skip
    refine OkI_of (L0 := [vr D 219, vi 9]) mi_mo_asked rfl rfl (Nat.le_of_ble_eq_true rfl) (fun C hR => ?_)
    refine V_iload_1 d_mo_asked_0 ?_
    refine V_bipush 18 d_mo_asked_1 (by decide) ?_
    refine V_icmp_ne 15 d_mo_asked_3 (by decide) (by omega) (by omega) (fun c3 => ?_) (fun c3 => by omega)
    refine V_iload_1 d_mo_asked_15 ?_
    refine V_bipush 19 d_mo_asked_16 (by decide) ?_
    refine V_icmp_ne 30 d_mo_asked_18 (by decide) (by omega) (by omega) (fun c18 => ?_) (fun c18 => by omega)
    refine V_aload_0 d_mo_asked_30 ?_
    refine V_getR d_mo_asked_31 fl_mo_139 is_mo r_mo_ask ?_
    refine V_iload_1 d_mo_asked_34 ?_
    refine V_bipush 7 d_mo_asked_35 (by decide) ?_
    refine V_isub d_mo_asked_37 ?_
    rw [show (9 : Int) - 7 = 2 by decide]
    refine V_iald d_mo_asked_38 is_mo_ask (by omega) (by omega) ?_
    rw [h3]
    refine V_ireturn d_mo_asked_39 (hR _ _ ?_)
    exact ⟨rfl, rfl⟩
  · skip
    refine OkI_of (L0 := [vr D 219, vi 10]) mi_mo_asked rfl rfl (Nat.le_of_ble_eq_true rfl) (fun C hR => ?_)
    refine V_iload_1 d_mo_asked_0 ?_
    refine V_bipush 18 d_mo_asked_1 (by decide) ?_
    refine V_icmp_ne 15 d_mo_asked_3 (by decide) (by omega) (by omega) (fun c3 => ?_) (fun c3 => by omega)
    refine V_iload_1 d_mo_asked_15 ?_
    refine V_bipush 19 d_mo_asked_16 (by decide) ?_
    refine V_icmp_ne 30 d_mo_asked_18 (by decide) (by omega) (by omega) (fun c18 => ?_) (fun c18 => by omega)
    refine V_aload_0 d_mo_asked_30 ?_
    refine V_getR d_mo_asked_31 fl_mo_139 is_mo r_mo_ask ?_
    refine V_iload_1 d_mo_asked_34 ?_
    refine V_bipush 7 d_mo_asked_35 (by decide) ?_
    refine V_isub d_mo_asked_37 ?_
    rw [show (10 : Int) - 7 = 3 by decide]
    refine V_iald d_mo_asked_38 is_mo_ask (by omega) (by omega) ?_
    rw [h4]
    refine V_ireturn d_mo_asked_39 (hR _ _ ?_)
    exact ⟨rfl, rfl⟩
  · skip
    refine OkI_of (L0 := [vr D 219, vi 18]) mi_mo_asked rfl rfl (Nat.le_of_ble_eq_true rfl) (fun C hR => ?_)
    refine V_iload_1 d_mo_asked_0 ?_
    refine V_bipush 18 d_mo_asked_1 (by decide) ?_
    refine V_icmp_ne 15 d_mo_asked_3 (by decide) (by omega) (by omega) (fun c3 => by omega) (fun c3 => ?_)
    refine V_aload_0 d_mo_asked_6 ?_
    refine V_getR d_mo_asked_7 fl_mo_139 is_mo r_mo_ask ?_
    refine V_iconst 4 d_mo_asked_10 ?_
    refine V_iald d_mo_asked_11 is_mo_ask (by omega) (by omega) ?_
    rw [h5]
    refine V_goto 39 d_mo_asked_12 (by decide) ?_
    refine V_ireturn d_mo_asked_39 (hR _ _ ?_)
    exact ⟨rfl, rfl⟩
  · skip
    refine OkI_of (L0 := [vr D 219, vi 19]) mi_mo_asked rfl rfl (Nat.le_of_ble_eq_true rfl) (fun C hR => ?_)
    refine V_iload_1 d_mo_asked_0 ?_
    refine V_bipush 18 d_mo_asked_1 (by decide) ?_
    refine V_icmp_ne 15 d_mo_asked_3 (by decide) (by omega) (by omega) (fun c3 => ?_) (fun c3 => by omega)
    refine V_iload_1 d_mo_asked_15 ?_
    refine V_bipush 19 d_mo_asked_16 (by decide) ?_
    refine V_icmp_ne 30 d_mo_asked_18 (by decide) (by omega) (by omega) (fun c18 => by omega) (fun c18 => ?_)
    refine V_aload_0 d_mo_asked_21 ?_
    refine V_getR d_mo_asked_22 fl_mo_139 is_mo r_mo_ask ?_
    refine V_iconst 5 d_mo_asked_25 ?_
    refine V_iald d_mo_asked_26 is_mo_ask (by omega) (by omega) ?_
    rw [h6]
    refine V_goto 39 d_mo_asked_27 (by decide) ?_
    refine V_ireturn d_mo_asked_39 (hR _ _ ?_)
    exact ⟨rfl, rfl⟩
theorem ok_joins {st : List Int} {a b c : Int} (hK : pS f (b :: a :: st)) (hl : st.length < 1000) (ha : bd6 a) (hb : bd6 b) (hc : isOp c ∨ ((c = 14 ∨ c = 15) ∧ is01 a ∧ is01 b)) : OkV D m_mo_joins [vr D 219, vi c] (Zg g h) f (fun f' => pS f' (op2 c a b :: st) ∧ lK f f') := by
  have t1 := hK.top
  rw [List.length_cons] at t1
  push_cast at t1
  have t2 : f 260 st.length = a := by
    have := hK.2 st.length (by simp only [List.length_cons]; omega)
    rw [this]; simp only [List.length_cons]
    rw [show st.length + 1 + 1 - 1 - st.length = 1 by omega]; rfl
  have hP : pS (q_up f 219 57 st.length) st := by
    refine ⟨q_up_eq _ _ _ _, fun i hi => ?_⟩
    rw [q_up_ne (by omega), hK.2 i (by simp only [List.length_cons]; omega)]
    simp only [List.length_cons]
    rw [show st.length + 1 + 1 - 1 - i = (st.length - 1 - i) + 1 + 1 by omega]; rfl
  have hk1 : lK f (q_up f 219 57 st.length) := fun j k h1 h2 => q_up_ne (by omega)
  have hm := mul_bd ha hb
  generalize hF1 : q_up f 219 57 (st.length : Int) = F1 at *
  have hp : ∀ v : Int, OkV D m_mo_puts [vr D 219, vl v] (Zg g h) F1 (fun f' => pS f' (v :: st) ∧ lK F1 f') := fun v => ok_puts hP (by omega)
  have main : ∀ (K36 : ∀ C : q_C, (∀ f', (pS f' (op2 c a b :: st) ∧ lK f f') → q_ret D C m_mo_joins vu (Zg g h) f') → V D C m_mo_joins 36 [vr D 219, vi c, vl b, vu, vl a, vu] [vi c] (Zg g h) F1), OkV D m_mo_joins [vr D 219, vi c] (Zg g h) f (fun f' => pS f' (op2 c a b :: st) ∧ lK f f') := by
    intro K36
    refine OkV_of (L0 := [vr D 219, vi c, vu, vu, vu, vu]) mi_mo_joins rfl rfl (Nat.le_of_ble_eq_true rfl) (fun C hR => ?_)
    refine V_aload_0 d_mo_joins_0 ?_
    refine V_getR d_mo_joins_1 fl_mo_136 is_mo r_mo_pile ?_
    refine V_aload_0 d_mo_joins_4 ?_
    refine V_getI d_mo_joins_5 fl_mo_390 is_mo ?_
    rw [t1.1]
    refine V_iconst 1 d_mo_joins_8 ?_
    refine V_isub d_mo_joins_9 ?_
    refine V_lald d_mo_joins_10 is_mo_pile (by omega) (by omega) ?_
    rw [show (st.length : Int) + 1 + 1 - 1 = st.length + 1 by omega, t1.2]
    refine V_lstore_2 d_mo_joins_11 rfl ?_
    refine V_aload_0 d_mo_joins_12 ?_
    refine V_getR d_mo_joins_13 fl_mo_136 is_mo r_mo_pile ?_
    refine V_aload_0 d_mo_joins_16 ?_
    refine V_getI d_mo_joins_17 fl_mo_390 is_mo ?_
    rw [t1.1]
    refine V_iconst 2 d_mo_joins_20 ?_
    refine V_isub d_mo_joins_21 ?_
    refine V_lald d_mo_joins_22 is_mo_pile (by omega) (by omega) ?_
    rw [show (st.length : Int) + 1 + 1 - 2 = st.length by omega, t2]
    refine V_lstore_4 d_mo_joins_23 rfl ?_
    refine V_aload_0 d_mo_joins_25 ?_
    refine V_dup d_mo_joins_26 rfl ?_
    refine V_getI d_mo_joins_27 fl_mo_390 is_mo ?_
    rw [t1.1]
    refine V_iconst 2 d_mo_joins_30 ?_
    refine V_isub d_mo_joins_31 ?_
    refine V_putI d_mo_joins_32 fl_mo_390 is_mo ?_
    rw [show (st.length : Int) + 1 + 1 - 2 = st.length by omega, hF1]
    refine V_iload_1 d_mo_joins_35 ?_
    exact K36 C hR
  refine main (fun C hR => ?_)
  rcases (show c = 1 ∨ c = 2 ∨ c = 3 ∨ c = 4 ∨ c = 5 ∨ c = 6 ∨ c = 11 ∨ c = 12 ∨ c = 13 ∨ c = 14 ∨ c = 15 by unfold isOp at hc; omega) with rfl | rfl | rfl | rfl | rfl | rfl | rfl | rfl | rfl | rfl | rfl
  · rw [op2_1] at hR
    refine V_tsi 108 d_mo_joins_36 (by decide) (by decide) rfl (by decide) ?_
    refine V_aload_0 d_mo_joins_108 ?_
    refine V_lload_4 d_mo_joins_109 ?_
    refine V_lload_2 d_mo_joins_111 ?_
    refine V_ladd d_mo_joins_112 ?_
    refine V_csL1 d_mo_joins_113 ml_mo_393 ms_mo_clip (by decide) (Nat.le_of_ble_eq_true rfl) (ok_clip (by omega)) ?_
    rintro _ f2 ⟨rfl, e2⟩
    rw [e2]; clear e2 f2
    refine V_cvV1 d_mo_joins_116 ml_mo_397 mv_mo_puts (by decide) (Nat.le_of_ble_eq_true rfl) is_mo (hp _) ?_
    rintro F hF
    refine V_goto 289 d_mo_joins_119 (by decide) ?_
    refine V_return d_mo_joins_289 (hR _ ?_)
    exact ⟨hF.1, hk1.tr hF.2⟩
  · rw [op2_2] at hR
    refine V_tsi 122 d_mo_joins_36 (by decide) (by decide) rfl (by decide) ?_
    refine V_aload_0 d_mo_joins_122 ?_
    refine V_lload_4 d_mo_joins_123 ?_
    refine V_lload_2 d_mo_joins_125 ?_
    refine V_lsub d_mo_joins_126 ?_
    refine V_csL1 d_mo_joins_127 ml_mo_393 ms_mo_clip (by decide) (Nat.le_of_ble_eq_true rfl) (ok_clip (by omega)) ?_
    rintro _ f2 ⟨rfl, e2⟩
    rw [e2]; clear e2 f2
    refine V_cvV1 d_mo_joins_130 ml_mo_397 mv_mo_puts (by decide) (Nat.le_of_ble_eq_true rfl) is_mo (hp _) ?_
    rintro F hF
    refine V_goto 289 d_mo_joins_133 (by decide) ?_
    refine V_return d_mo_joins_289 (hR _ ?_)
    exact ⟨hF.1, hk1.tr hF.2⟩
  · rw [op2_3] at hR
    refine V_tsi 136 d_mo_joins_36 (by decide) (by decide) rfl (by decide) ?_
    refine V_aload_0 d_mo_joins_136 ?_
    refine V_lload_4 d_mo_joins_137 ?_
    refine V_lload_2 d_mo_joins_139 ?_
    refine V_lmul d_mo_joins_140 ?_
    refine V_csL1 d_mo_joins_141 ml_mo_393 ms_mo_clip (by decide) (Nat.le_of_ble_eq_true rfl) (ok_clip (by omega)) ?_
    rintro _ f2 ⟨rfl, e2⟩
    rw [e2]; clear e2 f2
    refine V_cvV1 d_mo_joins_144 ml_mo_397 mv_mo_puts (by decide) (Nat.le_of_ble_eq_true rfl) is_mo (hp _) ?_
    rintro F hF
    refine V_goto 289 d_mo_joins_147 (by decide) ?_
    refine V_return d_mo_joins_289 (hR _ ?_)
    exact ⟨hF.1, hk1.tr hF.2⟩
  · rw [op2_4] at hR
    refine V_tsi 150 d_mo_joins_36 (by decide) (by decide) rfl (by decide) ?_
    refine V_aload_0 d_mo_joins_150 ?_
    refine V_lload_4 d_mo_joins_151 ?_
    refine V_lload_2 d_mo_joins_153 ?_
    refine V_csL2 d_mo_joins_154 ml_mo_401 ms_mo_floor (by decide) (Nat.le_of_ble_eq_true rfl) (ok_floor ha hb) ?_
    rintro _ f2 ⟨rfl, e2⟩
    rw [e2]; clear e2 f2
    refine V_cvV1 d_mo_joins_157 ml_mo_397 mv_mo_puts (by decide) (Nat.le_of_ble_eq_true rfl) is_mo (hp _) ?_
    rintro F hF
    refine V_goto 289 d_mo_joins_160 (by decide) ?_
    refine V_return d_mo_joins_289 (hR _ ?_)
    exact ⟨hF.1, hk1.tr hF.2⟩
  · rw [op2_5] at hR
    refine V_tsi 163 d_mo_joins_36 (by decide) (by decide) rfl (by decide) ?_
    refine V_aload_0 d_mo_joins_163 ?_
    refine V_lload_4 d_mo_joins_164 ?_
    refine V_lload_2 d_mo_joins_166 ?_
    refine V_lcmp_ge 176 d_mo_joins_167 d_mo_joins_168 (by decide) (by omega) (by omega) (fun c167 => ?_) (fun c167 => ?_)
    · skip
      refine V_lload_2 d_mo_joins_176 ?_
      refine V_cvV1 d_mo_joins_177 ml_mo_397 mv_mo_puts (by decide) (Nat.le_of_ble_eq_true rfl) is_mo (hp _) ?_
      rintro F hF
      refine V_goto 289 d_mo_joins_180 (by decide) ?_
      refine V_return d_mo_joins_289 (hR _ ?_)
      rw [show min a b = b by omega]; exact ⟨hF.1, hk1.tr hF.2⟩
    · skip
      refine V_lload_4 d_mo_joins_171 ?_
      refine V_goto 177 d_mo_joins_173 (by decide) ?_
      refine V_cvV1 d_mo_joins_177 ml_mo_397 mv_mo_puts (by decide) (Nat.le_of_ble_eq_true rfl) is_mo (hp _) ?_
      rintro F hF
      refine V_goto 289 d_mo_joins_180 (by decide) ?_
      refine V_return d_mo_joins_289 (hR _ ?_)
      rw [show min a b = a by omega]; exact ⟨hF.1, hk1.tr hF.2⟩
  · rw [op2_6] at hR
    refine V_tsi 183 d_mo_joins_36 (by decide) (by decide) rfl (by decide) ?_
    refine V_aload_0 d_mo_joins_183 ?_
    refine V_lload_4 d_mo_joins_184 ?_
    refine V_lload_2 d_mo_joins_186 ?_
    refine V_lcmp_le 196 d_mo_joins_187 d_mo_joins_188 (by decide) (by omega) (by omega) (fun c187 => ?_) (fun c187 => ?_)
    · skip
      refine V_lload_2 d_mo_joins_196 ?_
      refine V_cvV1 d_mo_joins_197 ml_mo_397 mv_mo_puts (by decide) (Nat.le_of_ble_eq_true rfl) is_mo (hp _) ?_
      rintro F hF
      refine V_goto 289 d_mo_joins_200 (by decide) ?_
      refine V_return d_mo_joins_289 (hR _ ?_)
      rw [show max a b = b by omega]; exact ⟨hF.1, hk1.tr hF.2⟩
    · skip
      refine V_lload_4 d_mo_joins_191 ?_
      refine V_goto 197 d_mo_joins_193 (by decide) ?_
      refine V_cvV1 d_mo_joins_197 ml_mo_397 mv_mo_puts (by decide) (Nat.le_of_ble_eq_true rfl) is_mo (hp _) ?_
      rintro F hF
      refine V_goto 289 d_mo_joins_200 (by decide) ?_
      refine V_return d_mo_joins_289 (hR _ ?_)
      rw [show max a b = a by omega]; exact ⟨hF.1, hk1.tr hF.2⟩
  · rw [op2_11] at hR
    refine V_tsi 203 d_mo_joins_36 (by decide) (by decide) rfl (by decide) ?_
    refine V_aload_0 d_mo_joins_203 ?_
    refine V_lload_4 d_mo_joins_204 ?_
    refine V_lload_2 d_mo_joins_206 ?_
    refine V_lcmp_ge 215 d_mo_joins_207 d_mo_joins_208 (by decide) (by omega) (by omega) (fun c207 => ?_) (fun c207 => ?_)
    · skip
      refine V_lconst0 d_mo_joins_215 ?_
      refine V_cvV1 d_mo_joins_216 ml_mo_397 mv_mo_puts (by decide) (Nat.le_of_ble_eq_true rfl) is_mo (hp _) ?_
      rintro F hF
      refine V_goto 289 d_mo_joins_219 (by decide) ?_
      refine V_return d_mo_joins_289 (hR _ ?_)
      rw [show (if a < b then (1 : Int) else 0) = 0 from if_neg (by omega)]; exact ⟨hF.1, hk1.tr hF.2⟩
    · skip
      refine V_lconst1 d_mo_joins_211 ?_
      refine V_goto 216 d_mo_joins_212 (by decide) ?_
      refine V_cvV1 d_mo_joins_216 ml_mo_397 mv_mo_puts (by decide) (Nat.le_of_ble_eq_true rfl) is_mo (hp _) ?_
      rintro F hF
      refine V_goto 289 d_mo_joins_219 (by decide) ?_
      refine V_return d_mo_joins_289 (hR _ ?_)
      rw [show (if a < b then (1 : Int) else 0) = 1 from if_pos (by omega)]; exact ⟨hF.1, hk1.tr hF.2⟩
  · rw [op2_12] at hR
    refine V_tsi 222 d_mo_joins_36 (by decide) (by decide) rfl (by decide) ?_
    refine V_aload_0 d_mo_joins_222 ?_
    refine V_lload_4 d_mo_joins_223 ?_
    refine V_lload_2 d_mo_joins_225 ?_
    refine V_lcmp_le 234 d_mo_joins_226 d_mo_joins_227 (by decide) (by omega) (by omega) (fun c226 => ?_) (fun c226 => ?_)
    · skip
      refine V_lconst0 d_mo_joins_234 ?_
      refine V_cvV1 d_mo_joins_235 ml_mo_397 mv_mo_puts (by decide) (Nat.le_of_ble_eq_true rfl) is_mo (hp _) ?_
      rintro F hF
      refine V_goto 289 d_mo_joins_238 (by decide) ?_
      refine V_return d_mo_joins_289 (hR _ ?_)
      rw [show (if b < a then (1 : Int) else 0) = 0 from if_neg (by omega)]; exact ⟨hF.1, hk1.tr hF.2⟩
    · skip
      refine V_lconst1 d_mo_joins_230 ?_
      refine V_goto 235 d_mo_joins_231 (by decide) ?_
      refine V_cvV1 d_mo_joins_235 ml_mo_397 mv_mo_puts (by decide) (Nat.le_of_ble_eq_true rfl) is_mo (hp _) ?_
      rintro F hF
      refine V_goto 289 d_mo_joins_238 (by decide) ?_
      refine V_return d_mo_joins_289 (hR _ ?_)
      rw [show (if b < a then (1 : Int) else 0) = 1 from if_pos (by omega)]; exact ⟨hF.1, hk1.tr hF.2⟩
  · rw [op2_13] at hR
    refine V_tsi 241 d_mo_joins_36 (by decide) (by decide) rfl (by decide) ?_
    refine V_aload_0 d_mo_joins_241 ?_
    refine V_lload_4 d_mo_joins_242 ?_
    refine V_lload_2 d_mo_joins_244 ?_
    refine V_lcmp_ne 253 d_mo_joins_245 d_mo_joins_246 (by decide) (by omega) (by omega) (fun c245 => ?_) (fun c245 => ?_)
    · skip
      refine V_lconst0 d_mo_joins_253 ?_
      refine V_cvV1 d_mo_joins_254 ml_mo_397 mv_mo_puts (by decide) (Nat.le_of_ble_eq_true rfl) is_mo (hp _) ?_
      rintro F hF
      refine V_goto 289 d_mo_joins_257 (by decide) ?_
      refine V_return d_mo_joins_289 (hR _ ?_)
      rw [show (if a = b then (1 : Int) else 0) = 0 from if_neg (by omega)]; exact ⟨hF.1, hk1.tr hF.2⟩
    · skip
      refine V_lconst1 d_mo_joins_249 ?_
      refine V_goto 254 d_mo_joins_250 (by decide) ?_
      refine V_cvV1 d_mo_joins_254 ml_mo_397 mv_mo_puts (by decide) (Nat.le_of_ble_eq_true rfl) is_mo (hp _) ?_
      rintro F hF
      refine V_goto 289 d_mo_joins_257 (by decide) ?_
      refine V_return d_mo_joins_289 (hR _ ?_)
      rw [show (if a = b then (1 : Int) else 0) = 1 from if_pos (by omega)]; exact ⟨hF.1, hk1.tr hF.2⟩
  · rw [op2_14] at hR
    have h01 : is01 a ∧ is01 b := by
      rcases hc with h1 | h1
      · exact absurd h1 (by decide)
      · exact h1.2
    have e1 : a * b = min a b := by
      rcases h01.1 with e | e <;> rcases h01.2 with e2 | e2 <;> rw [e, e2] <;> decide
    refine V_tsi 260 d_mo_joins_36 (by decide) (by decide) rfl (by decide) ?_
    refine V_aload_0 d_mo_joins_260 ?_
    refine V_lload_4 d_mo_joins_261 ?_
    refine V_lload_2 d_mo_joins_263 ?_
    refine V_lmul d_mo_joins_264 ?_
    rw [e1]
    refine V_cvV1 d_mo_joins_265 ml_mo_397 mv_mo_puts (by decide) (Nat.le_of_ble_eq_true rfl) is_mo (hp _) ?_
    rintro F hF
    refine V_goto 289 d_mo_joins_268 (by decide) ?_
    refine V_return d_mo_joins_289 (hR _ ?_)
    exact ⟨hF.1, hk1.tr hF.2⟩
  · rw [op2_15] at hR
    have h01 : is01 a ∧ is01 b := by
      rcases hc with h1 | h1
      · exact absurd h1 (by decide)
      · exact h1.2
    refine V_tsw 271 d_mo_joins_36 (by decide) (by decide) (fun _ => ?_) (fun hc => by omega)
    refine V_aload_0 d_mo_joins_271 ?_
    refine V_lload_4 d_mo_joins_272 ?_
    refine V_lload_2 d_mo_joins_274 ?_
    refine V_ladd d_mo_joins_275 ?_
    refine V_lconst0 d_mo_joins_276 ?_
    refine V_lcmp_le 285 d_mo_joins_277 d_mo_joins_278 (by decide) (by omega) (by omega) (fun c277 => ?_) (fun c277 => ?_)
    · skip
      refine V_lconst0 d_mo_joins_285 ?_
      refine V_cvV1 d_mo_joins_286 ml_mo_397 mv_mo_puts (by decide) (Nat.le_of_ble_eq_true rfl) is_mo (hp _) ?_
      rintro F hF
      refine V_return d_mo_joins_289 (hR _ ?_)
      rw [show max a b = 0 by omega]; exact ⟨hF.1, hk1.tr hF.2⟩
    · skip
      refine V_lconst1 d_mo_joins_281 ?_
      refine V_goto 286 d_mo_joins_282 (by decide) ?_
      refine V_cvV1 d_mo_joins_286 ml_mo_397 mv_mo_puts (by decide) (Nat.le_of_ble_eq_true rfl) is_mo (hp _) ?_
      rintro F hF
      refine V_return d_mo_joins_289 (hR _ ?_)
      rw [show max a b = 1 by omega]; exact ⟨hF.1, hk1.tr hF.2⟩
/-- codes come to their value -/
theorem ok_told {L a c0 z : List Int} {v : Int} (hL : L = a ++ (c0 ++ z)) (hl : (L.length : Int) ≤ 1600) (hcd : ∀ k : Nat, k < L.length → f 255 (1600 + (k : Int)) = L.getD k 0) (hkn : kaS f E) (hE : eB E) (hv : ev E c0 [] = some [v]) {n m : Int} (hn : n = a.length) (hm : m = (a.length : Int) + c0.length) : OkL D m_mo_told [vr D 219, vi n, vi m] (Zg g h) f (fun x f' => x = v ∧ lK f f') := by
  have hlen : (L.length : Int) = a.length + (c0.length + z.length) := by rw [hL, List.length_append, List.length_append]; push_cast; rfl
  refine OkL_of (L0 := [vr D 219, vi n, vi m, vu, vu]) mi_mo_told rfl rfl (Nat.le_of_ble_eq_true rfl) (fun C hR => ?_)
  have loop : ∀ (c p st : List Int) (F : q_F) (u : Value), L = p ++ (c ++ z) → m = (p.length : Int) + c.length → pS F st → bdL st → lK f F → ev E c st = some [v] → V D C m_mo_told 7 [vr D 219, vi n, vi m, vi (p.length : Int), u] [] (Zg g h) F := by
    intro c
    induction c with
    | nil =>
      intro p st F u hp hmp hK hb hk he
      have he : some st = some [v] := he
      have he : st = [v] := by cases he; rfl
      subst he
      have hmp : m = (p.length : Int) + 0 := hmp
      have h0 : F 260 0 = v := hK.top.2
      refine V_iload_3 d_mo_told_7 ?_
      refine V_iload_2 d_mo_told_8 ?_
      refine V_icmp_ge 151 d_mo_told_9 (by decide) (by omega) (by omega) (fun c9 => ?_) (fun c9 => by omega)
      refine V_aload_0 d_mo_told_151 ?_
      refine V_getR d_mo_told_152 fl_mo_136 is_mo r_mo_pile ?_
      refine V_iconst 0 d_mo_told_155 ?_
      refine V_lald d_mo_told_156 is_mo_pile (by omega) (by omega) ?_
      rw [h0]
      refine V_lreturn d_mo_told_157 (hR _ _ ?_)
      exact ⟨rfl, hk⟩
    | cons x c ih =>
      intro p st F u hp hmp hK hb hk he
      rw [List.length_cons] at hmp
      push_cast at hmp
      have hlp : (L.length : Int) = p.length + (c.length + 1 + z.length) := by rw [hp, List.length_append, List.length_append, List.length_cons]; push_cast; rfl
      have gx : L.getD p.length 0 = x := by rw [hp, List.getD_eq_getElem?_getD, List.getElem?_append_right (Nat.le_refl _), Nat.sub_self]; rfl
      have code : F 255 (1600 + (p.length : Int)) = x := by rw [hk _ _ (by omega) (by omega), hcd p.length (by omega), gx]
      have kn := hkn.fr hk
      obtain ⟨hl60, st', he1, he2⟩ := ev_step he
      have hb' := ev1_bd hE hb he1
      have K145 : ∀ (F' : q_F) (u : Value), pS F' st' → lK f F' → V D C m_mo_told 145 [vr D 219, vi n, vi m, vi (p.length : Int), u] [] (Zg g h) F' := by
        intro F' u hK' hk'
        have hpp : ((p ++ [x]).length : Int) = p.length + 1 := by rw [List.length_append]; push_cast; rfl
        have := ih (p ++ [x]) st' F' u (by rw [hp]; simp only [List.append_assoc, List.cons_append, List.nil_append]) (by omega) hK' hb' hk' he2
        rw [hpp] at this
        refine V_iinc_3 d_mo_told_145 rfl ?_
        refine V_goto 7 d_mo_told_148 (by decide) ?_
        exact this
      rcases ev1_cases he1 with ⟨h1, e1⟩ | ⟨h1, e1⟩ | ⟨h1, e1⟩ | ⟨h1, b', s, hs, h2, e1⟩ | ⟨b', a', s, hs, h2, e1⟩
      · rw [e1] at K145
        refine V_iload_3 d_mo_told_7 ?_
        refine V_iload_2 d_mo_told_8 ?_
        refine V_icmp_ge 151 d_mo_told_9 (by decide) (by omega) (by omega) (fun c9 => by omega) (fun c9 => ?_)
        refine V_aload_0 d_mo_told_12 ?_
        refine V_getR d_mo_told_13 fl_mo_121 is_mo r_mo_codes ?_
        refine V_sipush 1600 d_mo_told_16 (by decide) ?_
        refine V_iload_3 d_mo_told_19 ?_
        refine V_iadd d_mo_told_20 ?_
        refine V_iald d_mo_told_21 is_mo_codes (by omega) (by omega) ?_
        rw [code]
        refine V_istore_4 d_mo_told_22 rfl ?_
        refine V_iload_4 d_mo_told_24 ?_
        refine V_sipush 1000 d_mo_told_26 (by decide) ?_
        refine V_icmp_lt 46 d_mo_told_29 (by decide) (by omega) (by omega) (fun c29 => by omega) (fun c29 => ?_)
        refine V_aload_0 d_mo_told_32 ?_
        refine V_iload_4 d_mo_told_33 ?_
        refine V_sipush 1000 d_mo_told_35 (by decide) ?_
        refine V_isub d_mo_told_38 ?_
        refine V_i2l d_mo_told_39 (by omega) ?_
        refine V_cvV1 d_mo_told_40 ml_mo_397 mv_mo_puts (by decide) (Nat.le_of_ble_eq_true rfl) is_mo (ok_puts hK (by omega)) ?_
        rintro F2 ⟨k1, k2⟩
        refine V_goto 145 d_mo_told_43 (by decide) ?_
        exact K145 F2 _ k1 (hk.tr k2)
      · rw [e1] at K145
        refine V_iload_3 d_mo_told_7 ?_
        refine V_iload_2 d_mo_told_8 ?_
        refine V_icmp_ge 151 d_mo_told_9 (by decide) (by omega) (by omega) (fun c9 => by omega) (fun c9 => ?_)
        refine V_aload_0 d_mo_told_12 ?_
        refine V_getR d_mo_told_13 fl_mo_121 is_mo r_mo_codes ?_
        refine V_sipush 1600 d_mo_told_16 (by decide) ?_
        refine V_iload_3 d_mo_told_19 ?_
        refine V_iadd d_mo_told_20 ?_
        refine V_iald d_mo_told_21 is_mo_codes (by omega) (by omega) ?_
        rw [code]
        refine V_istore_4 d_mo_told_22 rfl ?_
        refine V_iload_4 d_mo_told_24 ?_
        refine V_sipush 1000 d_mo_told_26 (by decide) ?_
        refine V_icmp_lt 46 d_mo_told_29 (by decide) (by omega) (by omega) (fun c29 => ?_) (fun c29 => by omega)
        refine V_iload_4 d_mo_told_46 ?_
        refine V_bipush 17 d_mo_told_48 (by decide) ?_
        refine V_icmp_ne 61 d_mo_told_50 (by decide) (by omega) (by omega) (fun c50 => by omega) (fun c50 => ?_)
        refine V_aload_0 d_mo_told_53 ?_
        refine V_lconst1 d_mo_told_54 ?_
        refine V_cvV1 d_mo_told_55 ml_mo_397 mv_mo_puts (by decide) (Nat.le_of_ble_eq_true rfl) is_mo (ok_puts hK (by omega)) ?_
        rintro F2 ⟨k1, k2⟩
        refine V_goto 145 d_mo_told_58 (by decide) ?_
        exact K145 F2 _ k1 (hk.tr k2)
      · rw [e1] at K145
        have hEx := hE x
        have hx7 : x = 7 ∨ x = 8 ∨ x = 9 ∨ x = 10 ∨ x = 18 ∨ x = 19 := by unfold isWd at h1; omega
        have K125 : V D C m_mo_told 125 [vr D 219, vi n, vi m, vi (p.length : Int), vi x] [] (Zg g h) F := by
          refine V_aload_0 d_mo_told_125 ?_
          refine V_aload_0 d_mo_told_126 ?_
          refine V_iload_4 d_mo_told_127 ?_
          refine V_cvI1 d_mo_told_129 ml_mo_413 mv_mo_asked (by decide) (Nat.le_of_ble_eq_true rfl) is_mo (ok_asked kn h1) ?_
          rintro _ f2 ⟨rfl, e2⟩
          rw [e2]; clear e2 f2
          refine V_i2l d_mo_told_132 (by omega) ?_
          refine V_cvV1 d_mo_told_133 ml_mo_397 mv_mo_puts (by decide) (Nat.le_of_ble_eq_true rfl) is_mo (ok_puts hK (by omega)) ?_
          rintro F2 ⟨k1, k2⟩
          refine V_goto 145 d_mo_told_136 (by decide) ?_
          exact K145 F2 _ k1 (hk.tr k2)
        refine V_iload_3 d_mo_told_7 ?_
        refine V_iload_2 d_mo_told_8 ?_
        refine V_icmp_ge 151 d_mo_told_9 (by decide) (by omega) (by omega) (fun c9 => by omega) (fun c9 => ?_)
        refine V_aload_0 d_mo_told_12 ?_
        refine V_getR d_mo_told_13 fl_mo_121 is_mo r_mo_codes ?_
        refine V_sipush 1600 d_mo_told_16 (by decide) ?_
        refine V_iload_3 d_mo_told_19 ?_
        refine V_iadd d_mo_told_20 ?_
        refine V_iald d_mo_told_21 is_mo_codes (by omega) (by omega) ?_
        rw [code]
        refine V_istore_4 d_mo_told_22 rfl ?_
        refine V_iload_4 d_mo_told_24 ?_
        refine V_sipush 1000 d_mo_told_26 (by decide) ?_
        refine V_icmp_lt 46 d_mo_told_29 (by decide) (by omega) (by omega) (fun c29 => ?_) (fun c29 => by omega)
        refine V_iload_4 d_mo_told_46 ?_
        refine V_bipush 17 d_mo_told_48 (by decide) ?_
        refine V_icmp_ne 61 d_mo_told_50 (by decide) (by omega) (by omega) (fun c50 => ?_) (fun c50 => by omega)
        refine V_iload_4 d_mo_told_61 ?_
        refine V_bipush 16 d_mo_told_63 (by decide) ?_
        refine V_icmp_ne 95 d_mo_told_65 (by decide) (by omega) (by omega) (fun c65 => ?_) (fun c65 => by omega)
        refine V_iload_4 d_mo_told_95 ?_
        refine V_i2l d_mo_told_97 (by omega) ?_
        refine V_ldc2 7 d_mo_told_98 co_mo_405 rfl ?_
        refine V_ldc2 10 d_mo_told_101 co_mo_407 rfl ?_
        refine V_csI3 d_mo_told_104 ml_mo_225 ms_mo_isIn (by decide) (Nat.le_of_ble_eq_true rfl) (ok_isIn (by omega) (by decide) (by decide)) ?_
        rintro x104 f2 ⟨hx104, e2⟩
        rw [e2]; clear e2 f2
        refine V_if_ne 125 d_mo_told_107 (by decide) (by rcases hx104 with h | h <;> omega) (fun c107 => ?_) (fun c107 => ?_)
        · skip
          exact K125
        · skip
          refine V_iload_4 d_mo_told_110 ?_
          refine V_i2l d_mo_told_112 (by omega) ?_
          refine V_ldc2 18 d_mo_told_113 co_mo_409 rfl ?_
          refine V_ldc2 19 d_mo_told_116 co_mo_411 rfl ?_
          refine V_csI3 d_mo_told_119 ml_mo_225 ms_mo_isIn (by decide) (Nat.le_of_ble_eq_true rfl) (ok_isIn (by omega) (by decide) (by decide)) ?_
          rintro x119 f2 ⟨hx119, e2⟩
          rw [e2]; clear e2 f2
          refine V_if_eq 139 d_mo_told_122 (by decide) (by rcases hx119 with h | h <;> omega) (fun c122 => ?_) (fun c122 => ?_)
          · skip
            exfalso; rcases hx104 with h | h <;> rcases hx119 with h' | h' <;> omega
          · skip
            exact K125
      · rw [e1] at K145
        rw [hs] at hK
        have tp := hK.top
        have hbb : bd6 b' := hb b' (by rw [hs]; exact List.mem_cons_self ..)
        have hl2 : s.length < 60 := by rw [hs, List.length_cons] at hl60; omega
        have P2 : pS (q_up F 260 s.length (1 - b')) ((1 - b') :: s) := by
          refine ⟨by rw [q_up_ne (by omega), tp.1, List.length_cons]; push_cast; rfl, fun i hi => ?_⟩
          rw [List.length_cons] at hi ⊢
          by_cases ei : i = s.length
          · subst ei; rw [q_up_eq, show s.length + 1 - 1 - s.length = 0 by omega]; rfl
          · rw [q_up_ne (by omega), hK.2 i (by rw [List.length_cons]; omega), List.length_cons, show s.length + 1 - 1 - i = (s.length - 1 - i) + 1 by omega]; rfl
        refine V_iload_3 d_mo_told_7 ?_
        refine V_iload_2 d_mo_told_8 ?_
        refine V_icmp_ge 151 d_mo_told_9 (by decide) (by omega) (by omega) (fun c9 => by omega) (fun c9 => ?_)
        refine V_aload_0 d_mo_told_12 ?_
        refine V_getR d_mo_told_13 fl_mo_121 is_mo r_mo_codes ?_
        refine V_sipush 1600 d_mo_told_16 (by decide) ?_
        refine V_iload_3 d_mo_told_19 ?_
        refine V_iadd d_mo_told_20 ?_
        refine V_iald d_mo_told_21 is_mo_codes (by omega) (by omega) ?_
        rw [code]
        refine V_istore_4 d_mo_told_22 rfl ?_
        refine V_iload_4 d_mo_told_24 ?_
        refine V_sipush 1000 d_mo_told_26 (by decide) ?_
        refine V_icmp_lt 46 d_mo_told_29 (by decide) (by omega) (by omega) (fun c29 => ?_) (fun c29 => by omega)
        refine V_iload_4 d_mo_told_46 ?_
        refine V_bipush 17 d_mo_told_48 (by decide) ?_
        refine V_icmp_ne 61 d_mo_told_50 (by decide) (by omega) (by omega) (fun c50 => ?_) (fun c50 => by omega)
        refine V_iload_4 d_mo_told_61 ?_
        refine V_bipush 16 d_mo_told_63 (by decide) ?_
        refine V_icmp_ne 95 d_mo_told_65 (by decide) (by omega) (by omega) (fun c65 => by omega) (fun c65 => ?_)
        refine V_aload_0 d_mo_told_68 ?_
        refine V_getR d_mo_told_69 fl_mo_136 is_mo r_mo_pile ?_
        refine V_aload_0 d_mo_told_72 ?_
        refine V_getI d_mo_told_73 fl_mo_390 is_mo ?_
        rw [tp.1]
        refine V_iconst 1 d_mo_told_76 ?_
        refine V_isub d_mo_told_77 ?_
        rw [show (s.length : Int) + 1 - 1 = s.length by omega]
        refine V_lconst1 d_mo_told_78 ?_
        refine V_aload_0 d_mo_told_79 ?_
        refine V_getR d_mo_told_80 fl_mo_136 is_mo r_mo_pile ?_
        refine V_aload_0 d_mo_told_83 ?_
        refine V_getI d_mo_told_84 fl_mo_390 is_mo ?_
        rw [tp.1]
        refine V_iconst 1 d_mo_told_87 ?_
        refine V_isub d_mo_told_88 ?_
        rw [show (s.length : Int) + 1 - 1 = s.length by omega]
        refine V_lald d_mo_told_89 is_mo_pile (by omega) (by omega) ?_
        rw [tp.2]
        refine V_lsub d_mo_told_90 ?_
        refine V_last d_mo_told_91 is_mo_pile (by omega) (by omega) ?_
        refine V_goto 145 d_mo_told_92 (by decide) ?_
        exact K145 _ _ P2 (fun j k a b => by rw [q_up_at a]; exact hk j k a b)
      · rw [e1] at K145
        rw [hs] at hK
        have hbb : bd6 b' := hb b' (by rw [hs]; exact List.mem_cons_self ..)
        have hba : bd6 a' := hb a' (by rw [hs]; exact List.mem_cons_of_mem _ (List.mem_cons_self ..))
        have hl2 : s.length < 60 := by rw [hs, List.length_cons, List.length_cons] at hl60; omega
        have hx1 : (1 ≤ x ∧ x ≤ 6) ∨ (11 ≤ x ∧ x ≤ 15) := by unfold isOp at h2; omega
        refine V_iload_3 d_mo_told_7 ?_
        refine V_iload_2 d_mo_told_8 ?_
        refine V_icmp_ge 151 d_mo_told_9 (by decide) (by omega) (by omega) (fun c9 => by omega) (fun c9 => ?_)
        refine V_aload_0 d_mo_told_12 ?_
        refine V_getR d_mo_told_13 fl_mo_121 is_mo r_mo_codes ?_
        refine V_sipush 1600 d_mo_told_16 (by decide) ?_
        refine V_iload_3 d_mo_told_19 ?_
        refine V_iadd d_mo_told_20 ?_
        refine V_iald d_mo_told_21 is_mo_codes (by omega) (by omega) ?_
        rw [code]
        refine V_istore_4 d_mo_told_22 rfl ?_
        refine V_iload_4 d_mo_told_24 ?_
        refine V_sipush 1000 d_mo_told_26 (by decide) ?_
        refine V_icmp_lt 46 d_mo_told_29 (by decide) (by omega) (by omega) (fun c29 => ?_) (fun c29 => by omega)
        refine V_iload_4 d_mo_told_46 ?_
        refine V_bipush 17 d_mo_told_48 (by decide) ?_
        refine V_icmp_ne 61 d_mo_told_50 (by decide) (by omega) (by omega) (fun c50 => ?_) (fun c50 => by omega)
        refine V_iload_4 d_mo_told_61 ?_
        refine V_bipush 16 d_mo_told_63 (by decide) ?_
        refine V_icmp_ne 95 d_mo_told_65 (by decide) (by omega) (by omega) (fun c65 => ?_) (fun c65 => by omega)
        refine V_iload_4 d_mo_told_95 ?_
        refine V_i2l d_mo_told_97 (by omega) ?_
        refine V_ldc2 7 d_mo_told_98 co_mo_405 rfl ?_
        refine V_ldc2 10 d_mo_told_101 co_mo_407 rfl ?_
        refine V_csI3 d_mo_told_104 ml_mo_225 ms_mo_isIn (by decide) (Nat.le_of_ble_eq_true rfl) (ok_isIn (by omega) (by decide) (by decide)) ?_
        rintro x104 f2 ⟨hx104, e2⟩
        rw [e2]; clear e2 f2
        refine V_if_ne 125 d_mo_told_107 (by decide) (by rcases hx104 with h | h <;> omega) (fun c107 => ?_) (fun c107 => ?_)
        · skip
          exfalso; rcases hx104 with h | h <;> omega
        · skip
          refine V_iload_4 d_mo_told_110 ?_
          refine V_i2l d_mo_told_112 (by omega) ?_
          refine V_ldc2 18 d_mo_told_113 co_mo_409 rfl ?_
          refine V_ldc2 19 d_mo_told_116 co_mo_411 rfl ?_
          refine V_csI3 d_mo_told_119 ml_mo_225 ms_mo_isIn (by decide) (Nat.le_of_ble_eq_true rfl) (ok_isIn (by omega) (by decide) (by decide)) ?_
          rintro x119 f2 ⟨hx119, e2⟩
          rw [e2]; clear e2 f2
          refine V_if_eq 139 d_mo_told_122 (by decide) (by rcases hx119 with h | h <;> omega) (fun c122 => ?_) (fun c122 => ?_)
          · skip
            refine V_aload_0 d_mo_told_139 ?_
            refine V_iload_4 d_mo_told_140 ?_
            refine V_cvV1 d_mo_told_142 ml_mo_416 mv_mo_joins (by decide) (Nat.le_of_ble_eq_true rfl) is_mo (ok_joins hK (by omega) hba hbb h2) ?_
            rintro F2 ⟨k1, k2⟩
            exact K145 F2 _ k1 (hk.tr k2)
          · skip
            exfalso; rcases hx119 with h | h <;> omega
  rw [hn]
  rw [hn] at loop
  refine V_aload_0 d_mo_told_0 ?_
  refine V_iconst 0 d_mo_told_1 ?_
  refine V_putI d_mo_told_2 fl_mo_390 is_mo ?_
  refine V_iload_1 d_mo_told_5 ?_
  refine V_istore_3 d_mo_told_6 rfl ?_
  exact loop c0 a [] _ _ hL hm ⟨by rw [q_up_eq]; rfl, fun i hi => absurd hi (Nat.not_lt_zero _)⟩ (fun x hx => by cases hx) (fun j k h1 h2 => q_up_ne (by omega)) hv
end TLD
