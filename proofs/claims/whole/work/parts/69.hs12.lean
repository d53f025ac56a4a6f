/-! the class: persons' bodies, ways -/
section HS12
variable {D : q_D} {f f' : q_F} {A : q_As} {g h : Int}
theorem ok_fillWithPersons (hS : Cst g f A) (hF : Wf A) {c : Int → Int} {n : Nat} (hc : q_cho f A c n) (l : Int) : OkV D m_cr_fillWithPersons [vr D 45, vr D g] (Zg g h) f (fun f' => (∀ j i, ¬ j = 48 → f' j i = f j i) ∧ ∀ x, 0 ≤ x → x < 2 ^ n → f' 48 x = PCi A c l 9 n (bt x)) := by
  have hn := hF.nn
  have hS' := hS
  obtain ⟨hg, hG, hH, hT⟩ := hS'
  have hg2 := q_G51 hg
  obtain ⟨n1, n8, n3, n4⟩ := hc
  refine OkV_of (L0 := [vr D 45, vr D g, vu, vu, vu, vu, vu]) mi_cr_fillWithPersons rfl rfl (Nat.le_of_ble_eq_true rfl) (fun C hR => ?_)
  have inner : ∀ (m : Nat) (r : Int) (k : Nat) (p : Int) (a4 : Value) (F : q_F), k < n → r + m = 2 ^ k → 0 ≤ r → (∀ j i, ¬ j = 48 → F j i = f j i) → (∀ x, 0 ≤ x → x < 2 ^ k → F 48 x = PCi A c l 9 k (bt x)) → (∀ x, 0 ≤ x → x < r → F 48 (x + 2 ^ k) = PCi A c l 9 (k + 1) (bt (x + 2 ^ k))) → (∀ F', (∀ j i, ¬ j = 48 → F' j i = f j i) → (∀ x, 0 ≤ x → x < 2 ^ (k + 1) → F' 48 x = PCi A c l 9 (k + 1) (bt x)) → V D C m_cr_fillWithPersons 107 [vr D 45, vr D g, vi k, vi p, a4, vi (mB (fun j => decide (j < n) && (isOf A (A 7 (c k) 0) (c j) && !can A (c k) (c j)))), vi (2 ^ k)] [] (Zg g h) F') → V D C m_cr_fillWithPersons 63 [vr D 45, vr D g, vi k, vi p, a4, vi (mB (fun j => decide (j < n) && (isOf A (A 7 (c k) 0) (c j) && !can A (c k) (c j)))), vi r] [] (Zg g h) F := by
    intro m
    induction m with
    | zero =>
      intro r k p a4 F hk hm h0 hf hlo hhi K
      have h2 := p2_rg (k := k) (by omega)
      have hr : r = 2 ^ k := by omega
      subst hr
      refine V_iload_6 d_cr_fillWithPersons_63 ?_
      refine V_iconst 1 d_cr_fillWithPersons_65 ?_
      refine V_iload_2 d_cr_fillWithPersons_66 ?_
      refine V_ishl d_cr_fillWithPersons_67 ?_
      rw [q_shl1 (by omega)]
      refine V_icmp_ge 107 d_cr_fillWithPersons_68 (by decide) (by omega) (by omega) (fun c68 => ?_) (fun c68 => by omega)
      refine K F hf (fun x x0 x1 => ?_)
      rw [p2_s] at x1
      by_cases e : x < 2 ^ k
      · rw [hlo x x0 e]
        unfold PCi
        rw [PC, bt_hi x0 e (by omega)]; rfl
      · have := hhi (x - 2 ^ k) (by omega) (by omega)
        rw [show x - 2 ^ k + 2 ^ k = x by omega] at this
        exact this
    | succ m ih =>
      intro r k p a4 F hk hm h0 hf hlo hhi K
      have h2 := p2_rg (k := k) (by omega)
      have h22 := p2_rg (k := k + 1) (by omega)
      rw [p2_s] at h22
      have elo := hlo r h0 (by omega)
      have hand : q_and r (mB (fun j => decide (j < n) && (isOf A (A 7 (c k) 0) (c j) && !can A (c k) (c j)))) = mB (fun j => bt r j && (decide (j < n) && (isOf A (A 7 (c k) 0) (c j) && !can A (c k) (c j)))) := by
        conv => lhs; rw [← mB_bt2 h0 (by omega)]
        rw [mB_and]
      have hsm : ∀ j : Int, 0 ≤ j → j < n → smS A c 9 j k = isOf A (A 7 (c k) 0) (c j) := fun j j0 j1 => by
        unfold smS isOf
        rw [if_pos rfl, decide_eq_true (n4 j j0 j1).2, Bool.true_and]
      have hcl : mB (fun j => bt r j && (decide (j < n) && (isOf A (A 7 (c k) 0) (c j) && !can A (c k) (c j)))) = 0 ↔ allI k 0 (fun j => !(bt (r + 2 ^ k) j && smS A c 9 j k) || cmS A c k j) = true := by
        rw [mB_is0, allI_iff]
        constructor
        · intro hh j j0 j1
          have := hh j j0 (by omega)
          rw [bt_add h0 (by omega) j0, decide_eq_false (by omega), Bool.or_false, hsm j j0 (by omega)]
          rw [decide_eq_true (by omega), Bool.true_and] at this
          unfold cmS
          cases hb : bt r j <;> cases hi : isOf A (A 7 (c k) 0) (c j) <;> cases hx : can A (c k) (c j) <;> simp_all
        · intro hh j j0 j1
          cases hb : bt r j
          · rfl
          · have hjk : j < k := by
              rcases Int.lt_or_le j k with e | e
              · exact e
              · rw [bt_hi (k := k) h0 (by omega) e] at hb; cases hb
            have := hh j j0 (by omega)
            rw [bt_add h0 (by omega) j0, hb, hsm j j0 (by omega)] at this
            unfold cmS at this
            cases hi : isOf A (A 7 (c k) 0) (c j) <;> cases hx : can A (c k) (c j) <;> simp_all
      have hnew : PCi A c l 9 (k + 1) (bt (r + 2 ^ k)) = if allI k 0 (fun j => !(bt (r + 2 ^ k) j && smS A c 9 j k) || cmS A c k j) then PCi A c l 9 k (bt r) else 0 := by
        unfold PCi
        rw [PC, bt_add h0 (by omega) (by omega), decide_eq_true rfl, Bool.or_true, if_pos rfl, PC_eq k (bt (r + 2 ^ k)) (bt r) (fun j j0 j1 => by rw [bt_add h0 (by omega) j0, decide_eq_false (by omega), Bool.or_false]), show okS A c l 9 k = true from if_pos rfl, Bool.true_and, Int.mul_one]
      have fin : ∀ (y : Int), y = PCi A c l 9 (k + 1) (bt (r + 2 ^ k)) → V D C m_cr_fillWithPersons 63 [vr D 45, vr D g, vi k, vi p, a4, vi (mB (fun j => decide (j < n) && (isOf A (A 7 (c k) 0) (c j) && !can A (c k) (c j)))), vi (r + 1)] [] (Zg g h) (q_up F 48 (r + 2 ^ k) y) := by
        intro y hy
        refine ih _ k p a4 _ hk (by omega) (by omega) (fun j i hj => by rw [q_up_at hj]; exact hf j i hj) (fun x x0 x1 => by rw [q_up_ne (Or.inr (by omega))]; exact hlo x x0 x1) (fun x x0 x1 => ?_) K
        by_cases e : x = r
        · rw [q_up_is (by rw [e]), e]; exact hy
        · rw [q_up_ne (Or.inr (by omega))]; exact hhi x x0 (by omega)
      refine V_iload_6 d_cr_fillWithPersons_63 ?_
      refine V_iconst 1 d_cr_fillWithPersons_65 ?_
      refine V_iload_2 d_cr_fillWithPersons_66 ?_
      refine V_ishl d_cr_fillWithPersons_67 ?_
      rw [q_shl1 (by omega)]
      refine V_icmp_ge 107 d_cr_fillWithPersons_68 (by decide) (by omega) (by omega) (fun c68 => by omega) (fun c68 => ?_)
      refine V_aload_0 d_cr_fillWithPersons_71 ?_
      refine V_getR d_cr_fillWithPersons_72 fl_cr_18 is_cr r_cr_table ?_
      refine V_iload_6 d_cr_fillWithPersons_75 ?_
      refine V_iconst 1 d_cr_fillWithPersons_77 ?_
      refine V_iload_2 d_cr_fillWithPersons_78 ?_
      refine V_ishl d_cr_fillWithPersons_79 ?_
      refine V_ior d_cr_fillWithPersons_80 ?_
      rw [q_or1 (by omega) h0 (by omega)]
      refine V_iload_6 d_cr_fillWithPersons_81 ?_
      refine V_iload_5 d_cr_fillWithPersons_83 ?_
      refine V_iand d_cr_fillWithPersons_85 ?_
      rw [hand]
      refine V_if_ne 99 d_cr_fillWithPersons_86 (by decide) (mB_rg2 _) (fun c86 => ?_) (fun c86 => ?_)
      · skip
        refine V_iconst 0 d_cr_fillWithPersons_99 ?_
        refine V_iast d_cr_fillWithPersons_100 is_cr_table (by omega) (by omega) ?_
        refine V_iinc_6 d_cr_fillWithPersons_101 rfl ?_
        refine V_goto 63 d_cr_fillWithPersons_104 (by decide) ?_
        refine fin _ ?_
        rw [hnew, if_neg (fun e => c86 (hcl.mpr e))]
      · skip
        refine V_aload_0 d_cr_fillWithPersons_89 ?_
        refine V_getR d_cr_fillWithPersons_90 fl_cr_18 is_cr r_cr_table ?_
        refine V_iload_6 d_cr_fillWithPersons_93 ?_
        refine V_iald d_cr_fillWithPersons_95 is_cr_table (by omega) (by omega) ?_
        rw [elo]
        refine V_goto 100 d_cr_fillWithPersons_96 (by decide) ?_
        refine V_iast d_cr_fillWithPersons_100 is_cr_table (by omega) (by omega) ?_
        refine V_iinc_6 d_cr_fillWithPersons_101 rfl ?_
        refine V_goto 63 d_cr_fillWithPersons_104 (by decide) ?_
        refine fin _ ?_
        rw [hnew, if_pos (hcl.mp c86)]
  have outer : ∀ (m k : Nat) (a3 a4 a5 a6 : Value) (F : q_F), k + m = n → (∀ j i, ¬ j = 48 → F j i = f j i) → (∀ x, 0 ≤ x → x < 2 ^ k → F 48 x = PCi A c l 9 k (bt x)) → a3.category = 1 → a4.category = 1 → a5.category = 1 → V D C m_cr_fillWithPersons 9 [vr D 45, vr D g, vi k, a3, a4, a5, a6] [] (Zg g h) F := by
    intro m
    induction m with
    | zero =>
      intro k a3 a4 a5 a6 F hk hf ht k3 k4 k5
      have e1 : F 45 1 = n := by rw [hf _ _ (by decide)]; exact n1
      have hkn : k = n := by omega
      subst hkn
      refine V_iload_2 d_cr_fillWithPersons_9 ?_
      refine V_aload_0 d_cr_fillWithPersons_10 ?_
      refine V_getI d_cr_fillWithPersons_11 fl_cr_30 is_cr ?_
      rw [e1]
      refine V_icmp_ge 113 d_cr_fillWithPersons_14 (by decide) (by omega) (by omega) (fun c14 => ?_) (fun c14 => by omega)
      refine V_return d_cr_fillWithPersons_113 (hR _ ?_)
      exact ⟨hf, ht⟩
    | succ m ih =>
      intro k a3 a4 a5 a6 F hk hf ht k3 k4 k5
      have K : ∀ (p : Int) (b4 : Value), b4.category = 1 → ∀ F', (∀ j i, ¬ j = 48 → F' j i = f j i) → (∀ x, 0 ≤ x → x < 2 ^ (k + 1) → F' 48 x = PCi A c l 9 (k + 1) (bt x)) → V D C m_cr_fillWithPersons 107 [vr D 45, vr D g, vi k, vi p, b4, vi (mB (fun j => decide (j < n) && (isOf A (A 7 (c k) 0) (c j) && !can A (c k) (c j)))), vi (2 ^ k)] [] (Zg g h) F' := by
        intro p b4 h4 F' hf' ht'
        refine V_iinc_2 d_cr_fillWithPersons_107 rfl ?_
        refine V_goto 9 d_cr_fillWithPersons_110 (by decide) ?_
        exact ih (k + 1) _ _ _ _ F' (by omega) hf' ht' rfl h4 rfl
      have e1 : F 45 1 = n := by rw [hf _ _ (by decide)]; exact n1
      have ec : F 46 k = c k := by rw [hf _ _ (by decide)]; exact n3 k (by omega) (by omega)
      have bc := n4 k (by omega) (by omega)
      have hGF : Cg g F A := hG.mono (gEq.refl A) hF.1 (fun j i a b => hf j i (by omega))
      have em := hGF.mt bc.1 bc.2
      obtain ⟨⟨e0, -⟩, b0, -⟩ := hGF.sg hF.1 bc.1 bc.2
      have hcF : q_cho F A c n := ⟨e1, n8, fun j a b => by rw [hf _ _ (by decide)]; exact n3 j a b, n4⟩
      have h2 := p2_rg (k := k) (by omega)
      refine V_iload_2 d_cr_fillWithPersons_9 ?_
      refine V_aload_0 d_cr_fillWithPersons_10 ?_
      refine V_getI d_cr_fillWithPersons_11 fl_cr_30 is_cr ?_
      rw [e1]
      refine V_icmp_ge 113 d_cr_fillWithPersons_14 (by decide) (by omega) (by omega) (fun c14 => by omega) (fun c14 => ?_)
      refine V_aload_1 d_cr_fillWithPersons_17 ?_
      refine V_getR d_cr_fillWithPersons_18 fl_cr_54 (is_gd hg) (r_gd_sightings hg) ?_
      refine V_aload_0 d_cr_fillWithPersons_21 ?_
      refine V_getR d_cr_fillWithPersons_22 fl_cr_11 is_cr r_cr_chosen ?_
      refine V_iload_2 d_cr_fillWithPersons_25 ?_
      refine V_iald d_cr_fillWithPersons_26 is_cr_chosen (by omega) (by omega) ?_
      rw [ec]
      refine V_aald d_cr_fillWithPersons_27 (is_gd_sightings hg) (by omega) (by omega) (r_gd_sightingsrow hg (by omega)) ?_
      refine V_iconst 0 d_cr_fillWithPersons_28 ?_
      refine V_iald d_cr_fillWithPersons_29 (is_gd_sightings_row hg (by omega)) (by omega) (by omega) ?_
      rw [e0]
      refine V_istore_3 d_cr_fillWithPersons_30 rfl ?_
      refine V_aload_1 d_cr_fillWithPersons_31 ?_
      refine V_iload_3 d_cr_fillWithPersons_32 ?_
      refine V_cvI1 d_cr_fillWithPersons_33 ml_cr_58 mv_gd_sightingsOf (by decide) (Nat.le_of_ble_eq_true rfl) (is_gd hg) (ok_sightingsOf hg hGF hF.1 (by omega)) ?_
      rintro _ f2 ⟨rfl, e2⟩
      rw [e2]; clear e2 f2
      refine V_aload_1 d_cr_fillWithPersons_36 ?_
      refine V_getR d_cr_fillWithPersons_37 fl_cr_61 (is_gd hg) (r_gd_meets hg) ?_
      refine V_aload_0 d_cr_fillWithPersons_40 ?_
      refine V_getR d_cr_fillWithPersons_41 fl_cr_11 is_cr r_cr_chosen ?_
      refine V_iload_2 d_cr_fillWithPersons_44 ?_
      refine V_iald d_cr_fillWithPersons_45 is_cr_chosen (by omega) (by omega) ?_
      rw [ec]
      refine V_iald d_cr_fillWithPersons_46 (is_gd_meets hg) (by omega) (by omega) ?_
      rw [em]
      refine V_iconst (-1) d_cr_fillWithPersons_47 ?_
      refine V_ixor d_cr_fillWithPersons_48 ?_
      refine V_iand d_cr_fillWithPersons_49 ?_
      rw [mB_andn]
      refine V_istore_4 d_cr_fillWithPersons_50 rfl ?_
      refine V_aload_0 d_cr_fillWithPersons_52 ?_
      refine V_iload_4 d_cr_fillWithPersons_53 ?_
      refine V_cvI1 d_cr_fillWithPersons_55 ml_cr_64 mv_cr_chosenAmong (by decide) (Nat.le_of_ble_eq_true rfl) is_cr (ok_chosenAmong hF.1 hcF (fun i => isOf A (A 7 (c k) 0) i && !can A (c k) i) (fun i i0 i1 => by rw [mB_bit _ (by omega), decide_eq_true i1, Bool.true_and])) ?_
      rintro _ f2 ⟨rfl, e2⟩
      rw [e2]; clear e2 f2
      refine V_istore_5 d_cr_fillWithPersons_58 rfl ?_
      refine V_iconst 0 d_cr_fillWithPersons_60 ?_
      refine V_istore_6 d_cr_fillWithPersons_61 rfl ?_
      exact inner (2 ^ k : Int).toNat _ k _ _ F (by omega) (by omega) (by decide) hf ht (fun x a b => by omega) (K _ _ rfl)
  refine V_aload_0 d_cr_fillWithPersons_0 ?_
  refine V_getR d_cr_fillWithPersons_1 fl_cr_18 is_cr r_cr_table ?_
  refine V_iconst 0 d_cr_fillWithPersons_4 ?_
  refine V_iconst 1 d_cr_fillWithPersons_5 ?_
  refine V_iast d_cr_fillWithPersons_6 is_cr_table (by omega) (by omega) ?_
  refine V_iconst 0 d_cr_fillWithPersons_7 ?_
  refine V_istore_2 d_cr_fillWithPersons_8 rfl ?_
  refine outer n 0 _ _ _ _ _ (by omega) (fun j i hj => q_up_at hj) (fun x x0 x1 => ?_) rfl rfl rfl
  have : x = 0 := by have : x < 1 := x1; omega
  rw [this, q_up_eq]; rfl
end HS12
