/-! the reference: letter, clash, crowd, shade -/
section MO4
variable {D : q_D} {f : q_F} {A : q_As} {g h : Int}
theorem nthN_none {P : Int → Bool} : ∀ (m : Nat) (i k : Int), (∀ j, i ≤ j → j < i + m → P j = false) → nthN m i k P = -1 := by
  intro m
  induction m with
  | zero => intro i k _; rfl
  | succ m ih =>
    intro i k hp
    unfold nthN
    rw [hp i (by omega) (by omega)]
    exact ih _ _ (fun j a b => hp j (by omega) (by omega))
theorem nthN_skip {P : Int → Bool} : ∀ (a m : Nat) (i k : Int), (∀ j, i ≤ j → j < i + a → P j = false) → nthN (m + a) i k P = nthN m (i + a) k P := by
  intro a
  induction a with
  | zero => intro m i k _; simp
  | succ a ih =>
    intro m i k hp
    rw [show m + (a + 1) = (m + a) + 1 by omega]
    rw [nthN, hp i (by omega) (by omega), if_neg (by decide), ih m (i + 1) k (fun j x y => hp j (by omega) (by omega))]
    congr 1; omega
theorem cntN_skip {P : Int → Bool} : ∀ (a m : Nat) (i : Int), (∀ j, i ≤ j → j < i + a → P j = false) → cntN (m + a) i P = cntN m (i + a) P := by
  intro a
  induction a with
  | zero => intro m i _; simp
  | succ a ih =>
    intro m i hp
    rw [show m + (a + 1) = (m + a) + 1 by omega]
    rw [cntN, hp i (by omega) (by omega), if_neg (by decide), ih m (i + 1) (fun j x y => hp j (by omega) (by omega)), Int.zero_add]
    congr 1; omega
theorem clset_at {s t : Int} (hH : ¬ (A 11 t 0 = -1 ∧ A 7 t 0 = A 7 s 0 ∧ can A s t = false)) : clset A s t = false := by
  unfold clset own isOf held
  by_cases h1 : A 11 t 0 = -1
  · by_cases h2 : A 7 t 0 = A 7 s 0
    · have : can A s t = true := by
        cases hc : can A s t
        · exact absurd ⟨h1, h2, hc⟩ hH
        · rfl
      simp [this]
    · simp [h2]
  · simp [h1]
theorem clset_hi {s t : Int} (h : A 0 4 0 ≤ t) : clset A s t = false := by
  unfold clset own isOf held
  have : decide (t < A 0 4 0) = false := decide_eq_false (by omega)
  simp [this]
theorem clset_lo {s t : Int} (h : t ≤ s) : clset A s t = false := by
  unfold clset
  have : decide (s < t) = false := decide_eq_false (by omega)
  simp [this]
theorem mo_clash (hS : Mst f A) (hF : Wf A) {k : Int} (hk : -2147483648 ≤ k ∧ k < 2147483648) : OkI D m_mo_clash [vr D 219, vi k] (Zg g h) f (fun x f' => x = S_clash A k ∧ f' = f) := by
  have hn := hF.nn
  obtain ⟨hG, hH, hT⟩ := hS
  refine OkI_of (L0 := [vr D 219, vi k, vu, vu, vu]) mi_mo_clash rfl rfl (Nat.le_of_ble_eq_true rfl) (fun C hR => ?_)
  have inner : ∀ (m : Nat) (t s c c0 : Int) (K : ∀ t c, (A 11 s 0 = -1 → nth (clset A s) (k - c0) = -1 ∧ c = c0 + cnt (clset A s)) → (¬ A 11 s 0 = -1 → c = c0) → V D C m_mo_clash 101 [vr D 219, vi k, vi c, vi s, vi t] [] (Zg g h) f), t + m = 24 → 0 ≤ s → s < t → t ≤ A 0 4 0 → s < A 0 4 0 → (0 ≤ c0 ∧ c0 ≤ 31 * s) → 0 ≤ c → (A 11 s 0 = -1 → c + cntN (m + 7) t (clset A s) = c0 + cnt (clset A s) ∧ nthN m t (k - c) (clset A s) = nth (clset A s) (k - c0) ∧ (¬ nth (clset A s) (k - c0) = -1 → S_clash A k = 100 * s + nth (clset A s) (k - c0))) → (¬ A 11 s 0 = -1 → c = c0) → V D C m_mo_clash 17 [vr D 219, vi k, vi c, vi s, vi t] [] (Zg g h) f := by
    intro m
    induction m with
    | zero =>
      intro t s c c0 K hm h0 h1 h2 h3 hc0 hc hr hr2
      refine V_iload_4 d_mo_clash_17 ?_
      refine V_aload_0 d_mo_clash_19 ?_
      refine V_cvI0 d_mo_clash_20 ml_mo_328 mv_mo_seenMany (by decide) (Nat.le_of_ble_eq_true rfl) is_mo (ok_seenMany hG) ?_
      rintro _ f2 ⟨rfl, e2⟩
      rw [e2]; clear e2 f2
      refine V_icmp_ge 101 d_mo_clash_23 (by decide) (by omega) (by omega) (fun c23 => ?_) (fun c23 => by omega)
      refine K _ _ (fun e => ?_) hr2
      obtain ⟨e1, e2, -⟩ := hr e
      rw [cntN_zero 7 t (fun j a b => clset_hi (by omega))] at e1
      exact ⟨e2.symm, by omega⟩
    | succ m ih =>
      intro t s c c0 K hm h0 h1 h2 h3 hc0 hc hr hr2
      have hcr := cnt_rg (clset A s)
      have hcb : c ≤ 31 * s + 31 := by
        by_cases e : A 11 s 0 = -1
        · have := (hr e).1
          have := cntN_rg (clset A s) (m + 1 + 7) t
          omega
        · have := hr2 e; omega
      have fail : ∀ (h1 : t < A 0 4 0) (hno : A 11 s 0 = -1 → clset A s t = false), V D C m_mo_clash 17 [vr D 219, vi k, vi c, vi s, vi (t + 1)] [] (Zg g h) f := by
        intro h1' hno
        refine ih (t + 1) s c c0 K (by omega) h0 (by omega) (by omega) h3 hc0 hc (fun e => ?_) hr2
        obtain ⟨e1, e2, e3⟩ := hr e
        rw [show m + 1 + 7 = (m + 7) + 1 by omega, cntN, hno e, if_neg (by decide), Int.zero_add] at e1
        rw [nthN, hno e, if_neg (by decide)] at e2
        exact ⟨e1, e2, e3⟩
      refine V_iload_4 d_mo_clash_17 ?_
      refine V_aload_0 d_mo_clash_19 ?_
      refine V_cvI0 d_mo_clash_20 ml_mo_328 mv_mo_seenMany (by decide) (Nat.le_of_ble_eq_true rfl) is_mo (ok_seenMany hG) ?_
      rintro _ f2 ⟨rfl, e2⟩
      rw [e2]; clear e2 f2
      refine V_icmp_ge 101 d_mo_clash_23 (by decide) (by omega) (by omega) (fun c23 => ?_) (fun c23 => ?_)
      · skip
        refine K _ _ (fun e => ?_) hr2
        obtain ⟨e1, e2, -⟩ := hr e
        rw [cntN_zero _ t (fun j a b => clset_hi (by omega))] at e1
        rw [nthN_none _ t _ (fun j a b => clset_hi (by omega))] at e2
        exact ⟨e2.symm, by omega⟩
      · skip
        obtain ⟨es, bs1, bs2⟩ := hH.at hF.2.1 h0 h3
        obtain ⟨et, bt1, bt2⟩ := hH.at hF.2.1 (show 0 ≤ t by omega) c23
        have ps := (hG.sg hF.1 h0 h3).2.1
        have pt := (hG.sg hF.1 (s := t) (by omega) c23).2.1
        have em := hG.mt h0 h3
        refine V_aload_0 d_mo_clash_26 ?_
        refine V_getR d_mo_clash_27 fl_mo_148 is_mo r_mo_hired ?_
        refine V_iload_3 d_mo_clash_30 ?_
        refine V_iald d_mo_clash_31 is_mo_hired (by omega) (by omega) ?_
        rw [es]
        refine V_iconst (-1) d_mo_clash_32 ?_
        refine V_icmp_ne 95 d_mo_clash_33 (by decide) (by omega) (by omega) (fun c33 => ?_) (fun c33 => ?_)
        · skip
          refine V_iinc_4 d_mo_clash_95 rfl ?_
          refine V_goto 17 d_mo_clash_98 (by decide) ?_
          exact fail c23 (fun e => absurd e c33)
        · skip
          refine V_aload_0 d_mo_clash_36 ?_
          refine V_getR d_mo_clash_37 fl_mo_148 is_mo r_mo_hired ?_
          refine V_iload_4 d_mo_clash_40 ?_
          refine V_iald d_mo_clash_42 is_mo_hired (by omega) (by omega) ?_
          rw [et]
          refine V_iconst (-1) d_mo_clash_43 ?_
          refine V_icmp_ne 95 d_mo_clash_44 (by decide) (by omega) (by omega) (fun c44 => ?_) (fun c44 => ?_)
          · skip
            refine V_iinc_4 d_mo_clash_95 rfl ?_
            refine V_goto 17 d_mo_clash_98 (by decide) ?_
            exact fail c23 (fun _ => clset_at (fun e => c44 e.1))
          · skip
            refine V_aload_0 d_mo_clash_47 ?_
            refine V_iload_3 d_mo_clash_48 ?_
            refine V_cvI1 d_mo_clash_49 ml_mo_425 mv_mo_personOf (by decide) (Nat.le_of_ble_eq_true rfl) is_mo (ok_personOf hG hF.1 h0 h3) ?_
            rintro _ f2 ⟨rfl, e2⟩
            rw [e2]; clear e2 f2
            refine V_aload_0 d_mo_clash_52 ?_
            refine V_iload_4 d_mo_clash_53 ?_
            refine V_cvI1 d_mo_clash_55 ml_mo_425 mv_mo_personOf (by decide) (Nat.le_of_ble_eq_true rfl) is_mo (ok_personOf hG hF.1 (by omega) c23) ?_
            rintro _ f2 ⟨rfl, e2⟩
            rw [e2]; clear e2 f2
            refine V_icmp_ne 95 d_mo_clash_58 (by decide) (by omega) (by omega) (fun c58 => ?_) (fun c58 => ?_)
            · skip
              refine V_iinc_4 d_mo_clash_95 rfl ?_
              refine V_goto 17 d_mo_clash_98 (by decide) ?_
              exact fail c23 (fun _ => clset_at (fun e => c58 e.2.1.symm))
            · skip
              refine V_aload_0 d_mo_clash_61 ?_
              refine V_getR d_mo_clash_62 fl_mo_151 is_mo r_mo_with ?_
              refine V_iload_3 d_mo_clash_65 ?_
              refine V_iald d_mo_clash_66 is_mo_with (by omega) (by omega) ?_
              rw [em]
              refine V_iload_4 d_mo_clash_67 ?_
              refine V_ishr d_mo_clash_69 ?_
              refine V_iconst 1 d_mo_clash_70 ?_
              refine V_iand d_mo_clash_71 ?_
              refine V_iconst 1 d_mo_clash_72 ?_
              refine V_icmp_ne 79 d_mo_clash_73 (by decide) (mB_shrrg _ _) (by decide) (fun c73 => ?_) (fun c73 => ?_)
              · skip
                rw [mB_ib0 _ (by omega)] at c73
                have hcl : clset A s t = true := by
                  have hcn : can A s t = false := by
                    rw [decide_eq_true c23] at c73; simpa using c73
                  unfold clset own isOf held
                  simp only [hcn, decide_eq_true h1, decide_eq_true c23, decide_eq_true (show A 11 t 0 = -1 by omega), decide_eq_true (show A 7 t 0 = A 7 s 0 by omega)]
                  rfl
                obtain ⟨e1, e2, e3⟩ := hr (by omega)
                rw [show m + 1 + 7 = (m + 7) + 1 by omega, cntN, hcl, if_pos rfl] at e1
                rw [nthN, hcl, if_pos rfl] at e2
                refine V_iload_2 d_mo_clash_79 ?_
                refine V_iload_1 d_mo_clash_80 ?_
                refine V_icmp_ne 92 d_mo_clash_81 (by decide) (by omega) (by omega) (fun c81 => ?_) (fun c81 => ?_)
                · skip
                  rw [if_neg (by omega)] at e2
                  refine V_iinc_2 d_mo_clash_92 rfl ?_
                  refine V_iinc_4 d_mo_clash_95 rfl ?_
                  refine V_goto 17 d_mo_clash_98 (by decide) ?_
                  refine ih _ s _ c0 K (by omega) h0 (by omega) (by omega) h3 hc0 (by omega) (fun e => ⟨by omega, ?_, e3⟩) (fun e => by omega)
                  rw [show k - (c + 1) = k - c - 1 by omega]; exact e2
                · skip
                  rw [if_pos (by omega)] at e2
                  refine V_bipush 100 d_mo_clash_84 (by decide) ?_
                  refine V_iload_3 d_mo_clash_86 ?_
                  refine V_imul d_mo_clash_87 ?_
                  refine V_iload_4 d_mo_clash_88 ?_
                  refine V_iadd d_mo_clash_90 ?_
                  refine V_ireturn d_mo_clash_91 (hR _ _ ?_)
                  refine ⟨?_, rfl⟩
                  rw [e3 (by omega), ← e2]
              · skip
                rw [mB_ib _ (by omega)] at c73
                have hcn : can A s t = true := by
                  rw [decide_eq_true c23] at c73; simpa using c73
                refine V_goto 95 d_mo_clash_76 (by decide) ?_
                refine V_iinc_4 d_mo_clash_95 rfl ?_
                refine V_goto 17 d_mo_clash_98 (by decide) ?_
                exact fail c23 (fun _ => clset_at (fun e => by rw [hcn] at e; cases e.2.2))
  have outer : ∀ (m : Nat) (s c : Int) (a4 : Value), s + m = A 0 4 0 → 0 ≤ s → (0 ≤ c ∧ c ≤ 31 * s) → clN A m s (k - c) = S_clash A k → V D C m_mo_clash 4 [vr D 219, vi k, vi c, vi s, a4] [] (Zg g h) f := by
    intro m
    induction m with
    | zero =>
      intro s c a4 hm h0 hc hr
      refine V_iload_3 d_mo_clash_4 ?_
      refine V_aload_0 d_mo_clash_5 ?_
      refine V_cvI0 d_mo_clash_6 ml_mo_328 mv_mo_seenMany (by decide) (Nat.le_of_ble_eq_true rfl) is_mo (ok_seenMany hG) ?_
      rintro _ f2 ⟨rfl, e2⟩
      rw [e2]; clear e2 f2
      refine V_icmp_ge 107 d_mo_clash_9 (by decide) (by omega) (by omega) (fun c9 => ?_) (fun c9 => by omega)
      refine V_iconst (-1) d_mo_clash_107 ?_
      refine V_ireturn d_mo_clash_108 (hR _ _ ?_)
      exact ⟨hr, rfl⟩
    | succ m ih =>
      intro s c a4 hm h0 hc hr
      unfold clN at hr
      have hcr := cnt_rg (clset A s)
      have K : ∀ t c', (A 11 s 0 = -1 → nth (clset A s) (k - c) = -1 ∧ c' = c + cnt (clset A s)) → (¬ A 11 s 0 = -1 → c' = c) → V D C m_mo_clash 101 [vr D 219, vi k, vi c', vi s, vi t] [] (Zg g h) f := by
        intro t c' h1 h2
        refine V_iinc_3 d_mo_clash_101 rfl ?_
        refine V_goto 4 d_mo_clash_104 (by decide) ?_
        by_cases e : A 11 s 0 = -1
        · obtain ⟨e1, e2⟩ := h1 e
          rw [if_pos e, if_pos e1, show k - c - cnt (clset A s) = k - c' by omega] at hr
          exact ih _ _ _ (by omega) (by omega) (by omega) hr
        · have e2 := h2 e
          rw [if_neg e] at hr
          subst e2
          exact ih _ _ _ (by omega) (by omega) (by omega) hr
      obtain ⟨j, hj⟩ : ∃ j : Nat, s + 1 + (j : Int) = 24 := ⟨(24 - (s + 1)).toNat, by omega⟩
      have e24 : 24 = j + (s + 1).toNat := by omega
      refine V_iload_3 d_mo_clash_4 ?_
      refine V_aload_0 d_mo_clash_5 ?_
      refine V_cvI0 d_mo_clash_6 ml_mo_328 mv_mo_seenMany (by decide) (Nat.le_of_ble_eq_true rfl) is_mo (ok_seenMany hG) ?_
      rintro _ f2 ⟨rfl, e2⟩
      rw [e2]; clear e2 f2
      refine V_icmp_ge 107 d_mo_clash_9 (by decide) (by omega) (by omega) (fun c9 => by omega) (fun c9 => ?_)
      refine V_iload_3 d_mo_clash_12 ?_
      refine V_iconst 1 d_mo_clash_13 ?_
      refine V_iadd d_mo_clash_14 ?_
      refine V_istore_4 d_mo_clash_15 rfl ?_
      refine inner j _ s c c K hj h0 (by omega) (by omega) (by omega) hc hc.1 (fun e => ⟨?_, ?_, fun hne => ?_⟩) (fun _ => rfl)
      · have := cntN_skip (P := clset A s) (s + 1).toNat (j + 7) 0 (fun a b d => clset_lo (by omega))
        rw [show (0 : Int) + ((s + 1).toNat : Int) = s + 1 by omega] at this
        rw [← this, show j + 7 + (s + 1).toNat = 31 by omega]; rfl
      · have := nthN_skip (P := clset A s) (s + 1).toNat j 0 (k - c) (fun a b d => clset_lo (by omega))
        rw [show (0 : Int) + ((s + 1).toNat : Int) = s + 1 by omega, ← e24] at this
        exact this.symm
      · rw [if_pos e, if_neg hne] at hr
        exact hr.symm
  refine V_iconst 0 d_mo_clash_0 ?_
  refine V_istore_2 d_mo_clash_1 rfl ?_
  refine V_iconst 0 d_mo_clash_2 ?_
  refine V_istore_3 d_mo_clash_3 rfl ?_
  refine outer (A 0 4 0).toNat _ _ _ (by omega) (by decide) (by decide) ?_
  rw [Int.sub_zero]; rfl
end MO4
