/-! the reference: what is open -/
section MO9
variable {D : q_D} {f f' : q_F} {A : q_As} {g h : Int}
/-- open ones and bodies in the reference's cells -/
def q_opn (f : q_F) (A : q_As) (p : Int → Bool) : Prop := f 219 69 = cnt p ∧ (∀ k : Int, 0 ≤ k → k < cnt p → f 269 k = nth p k) ∧ (∀ b : Int, 0 ≤ b → b < A 0 2 0 → f 271 b = mB (held A b)) ∧ ∀ b : Int, 0 ≤ b → b < A 0 1 0 → f 271 (5 + b) = 0
theorem ok_opens1 (hS : Mst f A) (hF : Wf A) {p : Int → Bool} (hp : ∀ t, 0 ≤ t → t < 31 → p t = true → t < A 0 4 0) : OkV D m_mo_opens1 [vr D 219, vi (mB p)] (Zg g h) f (fun f' => q_opn f' A p ∧ ∀ j i, ¬ j = 269 → ¬ j = 271 → ¬ (j = 219 ∧ i = 69) → f' j i = f j i) := by
  have hn := hF.nn
  have hcr := cnt_rg p
  refine OkV_of (L0 := [vr D 219, vi (mB p), vu]) mi_mo_opens1 rfl rfl (Nat.le_of_ble_eq_true rfl) (fun C hR => ?_)
  have mgF : ∀ F : q_F, (∀ j i, ¬ j = 269 → ¬ j = 271 → ¬ (j = 219 ∧ i = 69) → F j i = f j i) → Mst F A := fun F hf => hS.scr hF (fun j k a b => hf j k (by omega) (by omega) b)
  have loop3 : ∀ (m : Nat) (b : Int) (F : q_F), b + m = A 0 1 0 → 0 ≤ b → (∀ j i, ¬ j = 269 → ¬ j = 271 → ¬ (j = 219 ∧ i = 69) → F j i = f j i) → F 219 69 = cnt p → (∀ k : Int, 0 ≤ k → k < cnt p → F 269 k = nth p k) → (∀ c : Int, 0 ≤ c → c < A 0 2 0 → F 271 c = mB (held A c)) → (∀ c : Int, 0 ≤ c → c < b → F 271 (5 + c) = 0) → V D C m_mo_opens1 81 [vr D 219, vi (mB p), vi b] [] (Zg g h) F := by
    intro m
    induction m with
    | zero =>
      intro b F hm h0 hf h1 h2 h3 h4
      have hSF := mgF F hf
      refine V_iload_2 d_mo_opens1_81 ?_
      refine V_aload_0 d_mo_opens1_82 ?_
      refine V_cvI0 d_mo_opens1_83 ml_mo_422 mv_mo_persons (by decide) (Nat.le_of_ble_eq_true rfl) is_mo (ok_persons hSF.1) ?_
      rintro _ f2 ⟨rfl, e2⟩
      rw [e2]; clear e2 f2
      refine V_icmp_ge 104 d_mo_opens1_86 (by decide) (by omega) (by omega) (fun c86 => ?_) (fun c86 => by omega)
      refine V_return d_mo_opens1_104 (hR _ ?_)
      exact ⟨⟨h1, h2, h3, fun c c0 c1 => h4 c c0 (by omega)⟩, hf⟩
    | succ m ih =>
      intro b F hm h0 hf h1 h2 h3 h4
      have hSF := mgF F hf
      refine V_iload_2 d_mo_opens1_81 ?_
      refine V_aload_0 d_mo_opens1_82 ?_
      refine V_cvI0 d_mo_opens1_83 ml_mo_422 mv_mo_persons (by decide) (Nat.le_of_ble_eq_true rfl) is_mo (ok_persons hSF.1) ?_
      rintro _ f2 ⟨rfl, e2⟩
      rw [e2]; clear e2 f2
      refine V_icmp_ge 104 d_mo_opens1_86 (by decide) (by omega) (by omega) (fun c86 => by omega) (fun c86 => ?_)
      refine V_aload_0 d_mo_opens1_89 ?_
      refine V_getR d_mo_opens1_90 fl_mo_169 is_mo r_mo_bodyHas ?_
      refine V_iconst 5 d_mo_opens1_93 ?_
      refine V_iload_2 d_mo_opens1_94 ?_
      refine V_iadd d_mo_opens1_95 ?_
      refine V_iconst 0 d_mo_opens1_96 ?_
      refine V_iast d_mo_opens1_97 is_mo_bodyHas (by omega) (by omega) ?_
      refine V_iinc_2 d_mo_opens1_98 rfl ?_
      refine V_goto 81 d_mo_opens1_101 (by decide) ?_
      refine ih _ _ (by omega) (by omega) (fun j i a c d => by rw [q_up_at c]; exact hf j i a c d) (by rw [q_up_at (by decide)]; exact h1) (fun k k0 k1 => by rw [q_up_at (by decide)]; exact h2 k k0 k1) (fun c c0 c1 => by rw [q_up_ne (Or.inr (by omega))]; exact h3 c c0 c1) (fun c c0 c1 => ?_)
      by_cases e : c = b
      · rw [q_up_is (by omega)]
      · rw [q_up_ne (Or.inr (by omega))]; exact h4 c c0 (by omega)
  have loop2 : ∀ (m : Nat) (b : Int) (F : q_F), b + m = A 0 2 0 → 0 ≤ b → (∀ j i, ¬ j = 269 → ¬ j = 271 → ¬ (j = 219 ∧ i = 69) → F j i = f j i) → F 219 69 = cnt p → (∀ k : Int, 0 ≤ k → k < cnt p → F 269 k = nth p k) → (∀ c : Int, 0 ≤ c → c < b → F 271 c = mB (held A c)) → V D C m_mo_opens1 54 [vr D 219, vi (mB p), vi b] [] (Zg g h) F := by
    intro m
    induction m with
    | zero =>
      intro b F hm h0 hf h1 h2 h3
      have hSF := mgF F hf
      refine V_iload_2 d_mo_opens1_54 ?_
      refine V_aload_0 d_mo_opens1_55 ?_
      refine V_cvI0 d_mo_opens1_56 ml_mo_419 mv_mo_shadeMany (by decide) (Nat.le_of_ble_eq_true rfl) is_mo (ok_shadeMany hSF.1) ?_
      rintro _ f2 ⟨rfl, e2⟩
      rw [e2]; clear e2 f2
      refine V_icmp_ge 79 d_mo_opens1_59 (by decide) (by omega) (by omega) (fun c59 => ?_) (fun c59 => by omega)
      refine V_iconst 0 d_mo_opens1_79 ?_
      refine V_istore_2 d_mo_opens1_80 rfl ?_
      exact loop3 (A 0 1 0).toNat _ F (by omega) (by decide) hf h1 h2 (fun c c0 c1 => h3 c c0 (by omega)) (fun c a b => by omega)
    | succ m ih =>
      intro b F hm h0 hf h1 h2 h3
      have hSF := mgF F hf
      refine V_iload_2 d_mo_opens1_54 ?_
      refine V_aload_0 d_mo_opens1_55 ?_
      refine V_cvI0 d_mo_opens1_56 ml_mo_419 mv_mo_shadeMany (by decide) (Nat.le_of_ble_eq_true rfl) is_mo (ok_shadeMany hSF.1) ?_
      rintro _ f2 ⟨rfl, e2⟩
      rw [e2]; clear e2 f2
      refine V_icmp_ge 79 d_mo_opens1_59 (by decide) (by omega) (by omega) (fun c59 => by omega) (fun c59 => ?_)
      refine V_aload_0 d_mo_opens1_62 ?_
      refine V_getR d_mo_opens1_63 fl_mo_169 is_mo r_mo_bodyHas ?_
      refine V_iload_2 d_mo_opens1_66 ?_
      refine V_aload_0 d_mo_opens1_67 ?_
      refine V_iload_2 d_mo_opens1_68 ?_
      refine V_cvI1 d_mo_opens1_69 ml_mo_440 mv_mo_hiredBy (by decide) (Nat.le_of_ble_eq_true rfl) is_mo (ok_hiredBy hSF.1 hSF.2.1 hF.1 hF.2.1 (by omega)) ?_
      rintro _ f2 ⟨rfl, e2⟩
      rw [e2]; clear e2 f2
      refine V_iast d_mo_opens1_72 is_mo_bodyHas (by omega) (by omega) ?_
      refine V_iinc_2 d_mo_opens1_73 rfl ?_
      refine V_goto 54 d_mo_opens1_76 (by decide) ?_
      refine ih _ _ (by omega) (by omega) (fun j i a c d => by rw [q_up_at c]; exact hf j i a c d) (by rw [q_up_at (by decide)]; exact h1) (fun k k0 k1 => by rw [q_up_at (by decide)]; exact h2 k k0 k1) (fun c c0 c1 => ?_)
      by_cases e : c = b
      · rw [q_up_is e, e]
      · rw [q_up_ne (Or.inr e)]; exact h3 c c0 (by omega)
  have loop1 : ∀ (m j : Nat) (s c : Int) (F : q_F), s + m = A 0 4 0 → s + j = 24 → 0 ≤ s → 0 ≤ c → (∀ j i, ¬ j = 269 → ¬ j = 271 → ¬ (j = 219 ∧ i = 69) → F j i = f j i) → F 219 69 = c → c + cntN (j + 7) s p = cnt p → (∀ k : Int, 0 ≤ k → k < c → F 269 k = nth p k) → (∀ k : Int, c ≤ k → nthN j s (k - c) p = nth p k) → c ≤ s → V D C m_mo_opens1 7 [vr D 219, vi (mB p), vi s] [] (Zg g h) F := by
    intro m
    induction m with
    | zero =>
      intro j s c F hm hj h0 hc hf h1 hcn hr hN hcs
      have hSF := mgF F hf
      have : cntN (j + 7) s p = 0 := cntN_zero _ s (fun i a b => by
        cases hi : p i
        · rfl
        · have := hp i (by omega) (by omega) hi; omega)
      rw [this] at hcn
      refine V_iload_2 d_mo_opens1_7 ?_
      refine V_aload_0 d_mo_opens1_8 ?_
      refine V_cvI0 d_mo_opens1_9 ml_mo_328 mv_mo_seenMany (by decide) (Nat.le_of_ble_eq_true rfl) is_mo (ok_seenMany hSF.1) ?_
      rintro _ f2 ⟨rfl, e2⟩
      rw [e2]; clear e2 f2
      refine V_icmp_ge 52 d_mo_opens1_12 (by decide) (by omega) (by omega) (fun c12 => ?_) (fun c12 => by omega)
      refine V_iconst 0 d_mo_opens1_52 ?_
      refine V_istore_2 d_mo_opens1_53 rfl ?_
      exact loop2 (A 0 2 0).toNat _ F (by omega) (by decide) hf (by omega) (fun k k0 k1 => hr k k0 (by omega)) (fun c a b => by omega)
    | succ m ih =>
      intro j s c F hm hj h0 hc hf h1 hcn hr hN hcs
      have hSF := mgF F hf
      obtain ⟨i, rfl⟩ : ∃ i, j = i + 1 := ⟨j - 1, by omega⟩
      rw [show i + 1 + 7 = (i + 7) + 1 by omega, cntN] at hcn
      refine V_iload_2 d_mo_opens1_7 ?_
      refine V_aload_0 d_mo_opens1_8 ?_
      refine V_cvI0 d_mo_opens1_9 ml_mo_328 mv_mo_seenMany (by decide) (Nat.le_of_ble_eq_true rfl) is_mo (ok_seenMany hSF.1) ?_
      rintro _ f2 ⟨rfl, e2⟩
      rw [e2]; clear e2 f2
      refine V_icmp_ge 52 d_mo_opens1_12 (by decide) (by omega) (by omega) (fun c12 => by omega) (fun c12 => ?_)
      refine V_iload_1 d_mo_opens1_15 ?_
      refine V_iload_2 d_mo_opens1_16 ?_
      refine V_ishr d_mo_opens1_17 ?_
      refine V_iconst 1 d_mo_opens1_18 ?_
      refine V_iand d_mo_opens1_19 ?_
      refine V_if_ne 26 d_mo_opens1_20 (by decide) (mB_shrrg _ _) (fun c20 => ?_) (fun c20 => ?_)
      · skip
        rw [mB_bf _ (by omega)] at c20
        rw [c20, if_pos rfl] at hcn
        refine V_aload_0 d_mo_opens1_26 ?_
        refine V_getR d_mo_opens1_27 fl_mo_163 is_mo r_mo_open0 ?_
        refine V_aload_0 d_mo_opens1_30 ?_
        refine V_getI d_mo_opens1_31 fl_mo_491 is_mo ?_
        rw [h1]
        refine V_iload_2 d_mo_opens1_34 ?_
        refine V_iast d_mo_opens1_35 is_mo_open0 (by omega) (by omega) ?_
        refine V_aload_0 d_mo_opens1_36 ?_
        refine V_dup d_mo_opens1_37 rfl ?_
        refine V_getI d_mo_opens1_38 fl_mo_491 is_mo ?_
        rw [q_up_at (by decide), h1]
        refine V_iconst 1 d_mo_opens1_41 ?_
        refine V_iadd d_mo_opens1_42 ?_
        refine V_putI d_mo_opens1_43 fl_mo_491 is_mo ?_
        refine V_iinc_2 d_mo_opens1_46 rfl ?_
        refine V_goto 7 d_mo_opens1_49 (by decide) ?_
        have hcs : s = nth p c := by
          have := hN c (by omega)
          rw [nthN, c20, if_pos rfl, if_pos (by omega)] at this
          exact this
        refine ih i _ (c + 1) _ (by omega) (by omega) (by omega) (by omega) (fun j i a b d => by rw [q_up_ne (by omega), q_up_at a]; exact hf j i a b d) (q_up_eq _ _ _ _) (by omega) (fun k k0 k1 => ?_) (fun k hk => ?_) (by omega)
        · rw [q_up_at (by decide)]
          by_cases e : k = c
          · rw [q_up_is e, e]; exact hcs
          · rw [q_up_ne (Or.inr e)]; exact hr k k0 (by omega)
        · have := hN k (by omega)
          rw [nthN, c20, if_pos rfl, if_neg (by omega), show k - c - 1 = k - (c + 1) by omega] at this
          exact this
      · skip
        rw [mB_bt _ (by omega)] at c20
        rw [c20, if_neg (by decide), Int.zero_add] at hcn
        refine V_goto 46 d_mo_opens1_23 (by decide) ?_
        refine V_iinc_2 d_mo_opens1_46 rfl ?_
        refine V_goto 7 d_mo_opens1_49 (by decide) ?_
        refine ih i _ c F (by omega) (by omega) (by omega) hc hf h1 hcn hr (fun k hk => ?_) (by omega)
        have := hN k hk
        rw [nthN, c20, if_neg (by decide)] at this
        exact this
  refine V_aload_0 d_mo_opens1_0 ?_
  refine V_iconst 0 d_mo_opens1_1 ?_
  refine V_putI d_mo_opens1_2 fl_mo_491 is_mo ?_
  refine V_iconst 0 d_mo_opens1_5 ?_
  refine V_istore_2 d_mo_opens1_6 rfl ?_
  exact loop1 (A 0 4 0).toNat 24 _ 0 _ (by omega) (by decide) (by decide) (by decide) (fun j i a b d => q_up_ne (by omega)) (q_up_eq _ _ _ _) (by rw [Int.zero_add]; rfl) (fun k a b => by omega) (fun k hk => by rw [Int.sub_zero]; rfl) (by decide)
end MO9
