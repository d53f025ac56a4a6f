/-! the reference reads persons: the walk -/
section RN6
variable {D : q_D} {f f' f'' S S' : q_F} {A : q_As} {g h : Int} {T : Int → Int} {N p e : Int} {L : List Int}
theorem mK.el {e0 : Int × Int} {F F' : q_F} (hk : mK F F') (hz : mZ f F) : mZ f F' := hz.tr hk.z
theorem ok_personTold (hT : mpS f T N (.inr (p, e))) (hw : mW f) (hE : mE f S L) (hW : pW S) {w : Int} : OkV D m_mo_personTold [vr D 219, vi w] (Zg g h) f (fun f' => mP f f' T N (if S 1 1 < 8 then lf L (sPerson S T N p e) else .inl (5, w))) := by
  have hcn := hW.cn (k := 1) (by decide)
  have h6 := hW.1
  have hc1 := hE.1.1 1 (by decide) (by decide)
  have hc0 := hE.1.1 0 (by decide) (by decide)
  refine OkV_of (L0 := [vr D 219, vi w, vu, vu]) mi_mo_personTold rfl rfl (Nat.le_of_ble_eq_true rfl) (fun C hR => ?_)
  by_cases hc : S 1 1 = 8
  · rw [if_neg (by omega)] at hR
    refine V_aload_0 d_mo_personTold_0 ?_
    refine V_iconst 1 d_mo_personTold_1 ?_
    refine V_bipush 8 d_mo_personTold_2 (by decide) ?_
    refine V_iload_1 d_mo_personTold_4 ?_
    refine V_cvI3 d_mo_personTold_5 ml_mo_267 mv_mo_isFull (by decide) (Nat.le_of_ble_eq_true rfl) is_mo (ok_isFull hT (by decide) (by decide) (by omega)) ?_
    rintro x F (⟨rfl, h1, t1, k1⟩ | ⟨rfl, h1, e1⟩)
    rotate_left
    exact absurd (hc1.trans hc) h1
    refine V_if_eq 12 d_mo_personTold_8 (by decide) (by omega) (fun c8 => by omega) (fun c8 => ?_)
    refine V_return d_mo_personTold_11 (hR _ ?_)
    exact ⟨k1.z, t1⟩
  · rw [if_pos (by omega)] at hR
    have bad : ∀ (e0 : Int × Int), sPerson S T N p e = .inl e0 → ∀ (m : Nat) (k : Int) (F : q_F), k + m = S 1 0 → 0 ≤ k → mpS F T N (.inl e0) → mZ f F → F 246 0 = S 1 0 → V D C m_mo_personTold 20 [vr D 219, vi w, vi (S 1 1), vi k] [] (Zg g h) F := by
      intro e0 hr m
      rw [hr] at hR
      induction m with
      | zero =>
        intro k F km k0 t1 z1 c0
        have b1 := t1.2.2.2
        refine V_iload_3 d_mo_personTold_20 ?_
        refine V_aload_0 d_mo_personTold_21 ?_
        refine V_getR d_mo_personTold_22 fl_mo_93 is_mo r_mo_many ?_
        refine V_iconst 0 d_mo_personTold_25 ?_
        refine V_iald d_mo_personTold_26 is_mo_many (by omega) (by omega) ?_
        rw [c0]
        refine V_icmp_ge 54 d_mo_personTold_27 (by decide) (by omega) (by omega) (fun c27 => ?_) (fun c27 => by omega)
        refine V_aload_0 d_mo_personTold_54 ?_
        refine V_getI d_mo_personTold_55 fl_mo_185 is_mo ?_
        rw [b1.1]
        refine V_if_ne 71 d_mo_personTold_58 (by decide) (by omega) (fun c58 => ?_) (fun c58 => by omega)
        refine V_return d_mo_personTold_71 (hR _ ?_)
        exact ⟨z1, t1⟩
      | succ m ih =>
        intro k F km k0 t1 z1 c0
        refine V_iload_3 d_mo_personTold_20 ?_
        refine V_aload_0 d_mo_personTold_21 ?_
        refine V_getR d_mo_personTold_22 fl_mo_93 is_mo r_mo_many ?_
        refine V_iconst 0 d_mo_personTold_25 ?_
        refine V_iald d_mo_personTold_26 is_mo_many (by omega) (by omega) ?_
        rw [c0]
        refine V_icmp_ge 54 d_mo_personTold_27 (by decide) (by omega) (by omega) (fun c27 => by omega) (fun c27 => ?_)
        refine V_aload_0 d_mo_personTold_30 ?_
        refine V_getR d_mo_personTold_31 fl_mo_103 is_mo r_mo_personHas ?_
        refine V_bipush 6 d_mo_personTold_34 (by decide) ?_
        refine V_iload_2 d_mo_personTold_36 ?_
        refine V_imul d_mo_personTold_37 ?_
        refine V_iload_3 d_mo_personTold_38 ?_
        refine V_iadd d_mo_personTold_39 ?_
        refine V_aload_0 d_mo_personTold_40 ?_
        refine V_iconst 0 d_mo_personTold_41 ?_
        refine V_bipush 9 d_mo_personTold_42 (by decide) ?_
        refine V_cvI2 d_mo_personTold_44 ml_mo_256 mv_mo_number (by decide) (Nat.le_of_ble_eq_true rfl) is_mo (ok_number t1 (by decide) (by decide)) ?_
        rintro x F2 ⟨t2, k2, x2, -⟩
        have t2 : mpS F2 T N (.inl e0) := t2
        refine V_iast d_mo_personTold_47 is_mo_personHas (by omega) (by omega) ?_
        refine V_iinc_3 d_mo_personTold_48 rfl ?_
        refine V_goto 20 d_mo_personTold_51 (by decide) ?_
        exact ih _ _ (by omega) (by omega) (t2.fr (fun j i hji => by rw [q_up_ne (by omega)])) ((z1.tr k2.z).up (by first | exact rd219 (by omega) | exact rd246 (by omega) | exact rd247 (by omega) | exact rd248 (by omega) | exact rd249 (by omega) | exact rd250 (by omega) | exact rd251 (by omega) | exact rd252 (by omega) | exact rd253 (by omega) | exact rd254 (by omega) | exact rd257 (by omega) (by omega))) (by rw [q_up_ne (by omega), k2 _ _ (by decide)]; exact c0)
    have good : ∀ (l : List Int), isNm l → ∀ (m : Nat) (k q d : Int) (F S1 : q_F), k + m = S 1 0 → 0 ≤ k → mpS F T N (.inr (q, d)) → pJ S f F S1 l k → sPerson S T N p e = sFor T N (15 + S 1 1) 9 m S1 k q d → V D C m_mo_personTold 20 [vr D 219, vi w, vi (S 1 1), vi k] [] (Zg g h) F := by
      intro l ln m
      induction m with
      | zero =>
        intro k q d F S1 km k0 t1 j1 hr
        have b1 := t1.2.2.2
        have c0 : F 246 0 = S 1 0 := by rw [j1.1 _ _ (by omega) (by omega) (by omega)]; exact hc0
        have c1 : F 246 1 = S 1 1 := by rw [j1.1 _ _ (by omega) (by omega) (by omega)]; exact hc1
        rw [hr] at hR
        refine V_iload_3 d_mo_personTold_20 ?_
        refine V_aload_0 d_mo_personTold_21 ?_
        refine V_getR d_mo_personTold_22 fl_mo_93 is_mo r_mo_many ?_
        refine V_iconst 0 d_mo_personTold_25 ?_
        refine V_iald d_mo_personTold_26 is_mo_many (by omega) (by omega) ?_
        rw [c0]
        refine V_icmp_ge 54 d_mo_personTold_27 (by decide) (by omega) (by omega) (fun c27 => ?_) (fun c27 => by omega)
        refine V_aload_0 d_mo_personTold_54 ?_
        refine V_getI d_mo_personTold_55 fl_mo_185 is_mo ?_
        rw [b1.1]
        refine V_if_ne 71 d_mo_personTold_58 (by decide) (by omega) (fun c58 => by omega) (fun c58 => ?_)
        refine V_aload_0 d_mo_personTold_61 ?_
        refine V_getR d_mo_personTold_62 fl_mo_93 is_mo r_mo_many ?_
        refine V_iconst 1 d_mo_personTold_65 ?_
        refine V_dup2 d_mo_personTold_66 rfl rfl ?_
        refine V_iald d_mo_personTold_67 is_mo_many (by omega) (by omega) ?_
        rw [c1]
        refine V_iconst 1 d_mo_personTold_68 ?_
        refine V_iadd d_mo_personTold_69 ?_
        refine V_iast d_mo_personTold_70 is_mo_many (by omega) (by omega) ?_
        refine V_return d_mo_personTold_71 (hR _ ?_)
        refine ⟨?_, ?_, ?_⟩
        · exact (j1.z (by omega)).up (by first | exact rd219 (by omega) | exact rd246 (by omega) | exact rd247 (by omega) | exact rd248 (by omega) | exact rd249 (by omega) | exact rd250 (by omega) | exact rd251 (by omega) | exact rd252 (by omega) | exact rd253 (by omega) | exact rd254 (by omega) | exact rd257 (by omega) (by omega))
        · exact t1.fr (fun j i hji => by rw [q_up_ne (by omega)])
        · exact hE.person hW ln (by omega) (by rw [show S 1 0 = k by omega]; exact j1)
      | succ m ih =>
        intro k q d F S1 km k0 t1 j1 hr
        have c0 : F 246 0 = S 1 0 := by rw [j1.1 _ _ (by omega) (by omega) (by omega)]; exact hc0
        unfold sFor sNum at hr
        cases hl : l_num T N 0 9 q d with
        | inl e0 =>
          rw [hl] at hr
          refine V_iload_3 d_mo_personTold_20 ?_
          refine V_aload_0 d_mo_personTold_21 ?_
          refine V_getR d_mo_personTold_22 fl_mo_93 is_mo r_mo_many ?_
          refine V_iconst 0 d_mo_personTold_25 ?_
          refine V_iald d_mo_personTold_26 is_mo_many (by omega) (by omega) ?_
          rw [c0]
          refine V_icmp_ge 54 d_mo_personTold_27 (by decide) (by omega) (by omega) (fun c27 => by omega) (fun c27 => ?_)
          refine V_aload_0 d_mo_personTold_30 ?_
          refine V_getR d_mo_personTold_31 fl_mo_103 is_mo r_mo_personHas ?_
          refine V_bipush 6 d_mo_personTold_34 (by decide) ?_
          refine V_iload_2 d_mo_personTold_36 ?_
          refine V_imul d_mo_personTold_37 ?_
          refine V_iload_3 d_mo_personTold_38 ?_
          refine V_iadd d_mo_personTold_39 ?_
          refine V_aload_0 d_mo_personTold_40 ?_
          refine V_iconst 0 d_mo_personTold_41 ?_
          refine V_bipush 9 d_mo_personTold_42 (by decide) ?_
          refine V_cvI2 d_mo_personTold_44 ml_mo_256 mv_mo_number (by decide) (Nat.le_of_ble_eq_true rfl) is_mo (ok_number t1 (by decide) (by decide)) ?_
          rintro x F2 ⟨t2, k2, x2, -⟩
          have t2 : mpS F2 T N (.inl e0) := by
            have t3 : mpS F2 T N (pst (l_num T N 0 9 q d)) := t2
            rw [hl] at t3; exact t3
          refine V_iast d_mo_personTold_47 is_mo_personHas (by omega) (by omega) ?_
          refine V_iinc_3 d_mo_personTold_48 rfl ?_
          refine V_goto 20 d_mo_personTold_51 (by decide) ?_
          exact bad e0 hr m _ _ (by omega) (by omega) (t2.fr (fun j i hji => by rw [q_up_ne (by omega)])) (((j1.z (by omega)).tr k2.z).up (by first | exact rd219 (by omega) | exact rd246 (by omega) | exact rd247 (by omega) | exact rd248 (by omega) | exact rd249 (by omega) | exact rd250 (by omega) | exact rd251 (by omega) | exact rd252 (by omega) | exact rd253 (by omega) | exact rd254 (by omega) | exact rd257 (by omega) (by omega))) (by rw [q_up_ne (by omega), k2 _ _ (by decide)]; exact c0)
        | inr u =>
          obtain ⟨v, q', d'⟩ := u
          rw [hl] at hr
          have hr : sPerson S T N p e = sFor T N (15 + S 1 1) 9 m (q_up S1 (15 + S 1 1) k v) (k + 1) q' d' := hr
          refine V_iload_3 d_mo_personTold_20 ?_
          refine V_aload_0 d_mo_personTold_21 ?_
          refine V_getR d_mo_personTold_22 fl_mo_93 is_mo r_mo_many ?_
          refine V_iconst 0 d_mo_personTold_25 ?_
          refine V_iald d_mo_personTold_26 is_mo_many (by omega) (by omega) ?_
          rw [c0]
          refine V_icmp_ge 54 d_mo_personTold_27 (by decide) (by omega) (by omega) (fun c27 => by omega) (fun c27 => ?_)
          refine V_aload_0 d_mo_personTold_30 ?_
          refine V_getR d_mo_personTold_31 fl_mo_103 is_mo r_mo_personHas ?_
          refine V_bipush 6 d_mo_personTold_34 (by decide) ?_
          refine V_iload_2 d_mo_personTold_36 ?_
          refine V_imul d_mo_personTold_37 ?_
          refine V_iload_3 d_mo_personTold_38 ?_
          refine V_iadd d_mo_personTold_39 ?_
          refine V_aload_0 d_mo_personTold_40 ?_
          refine V_iconst 0 d_mo_personTold_41 ?_
          refine V_bipush 9 d_mo_personTold_42 (by decide) ?_
          refine V_cvI2 d_mo_personTold_44 ml_mo_256 mv_mo_number (by decide) (Nat.le_of_ble_eq_true rfl) is_mo (ok_number t1 (by decide) (by decide)) ?_
          rintro x F2 ⟨t2, k2, x2, x3⟩
          have t2 : mpS F2 T N (.inr (q', d')) := by
            have t3 : mpS F2 T N (pst (l_num T N 0 9 q d)) := t2
            rw [hl] at t3; exact t3
          have x3 := x3 v q' d' hl
          refine V_iast d_mo_personTold_47 is_mo_personHas (by omega) (by omega) ?_
          refine V_iinc_3 d_mo_personTold_48 rfl ?_
          refine V_goto 20 d_mo_personTold_51 (by decide) ?_
          refine ih _ q' d' _ _ (by omega) (by omega) (t2.fr (fun j i hji => by rw [q_up_ne (by omega)])) ⟨fun j i a b c => ?_, ?_, fun t a b => ?_, fun j i a => ?_⟩ hr
          · rw [q_up_ne (by omega), k2 _ _ a]; exact j1.1 j i a b c
          · rw [q_up_ne (by omega), k2 _ _ (by omega)]; exact j1.2.1
          · by_cases et : t = k
            · rw [et, q_up_eq, q_up_eq]; exact x3
            · rw [q_up_ne (by omega), q_up_ne (by omega), k2 _ _ (by omega)]; exact j1.2.2.1 t a (by omega)
          · rw [q_up_ne (by omega)]; exact j1.2.2.2 j i a
    cases hn : nwN S T N p e with
    | inl e0 =>
      have hr : sPerson S T N p e = .inl e0 := by unfold sPerson; rw [sNew_nw, hn]; rfl
      refine V_aload_0 d_mo_personTold_0 ?_
      refine V_iconst 1 d_mo_personTold_1 ?_
      refine V_bipush 8 d_mo_personTold_2 (by decide) ?_
      refine V_iload_1 d_mo_personTold_4 ?_
      refine V_cvI3 d_mo_personTold_5 ml_mo_267 mv_mo_isFull (by decide) (Nat.le_of_ble_eq_true rfl) is_mo (ok_isFull hT (by decide) (by decide) (by omega)) ?_
      rintro x F (⟨rfl, h1, t1, k1⟩ | ⟨rfl, h1, e1⟩)
      exact absurd (hc1.symm.trans h1) hc
      rw [e1]; clear e1 F
      refine V_if_eq 12 d_mo_personTold_8 (by decide) (by omega) (fun c8 => ?_) (fun c8 => by omega)
      refine V_aload_0 d_mo_personTold_12 ?_
      refine V_iconst 1 d_mo_personTold_13 ?_
      refine V_cvI1 d_mo_personTold_14 ml_mo_252 mv_mo_newName (by decide) (Nat.le_of_ble_eq_true rfl) is_mo (ok_newName hT hw hE.1 hW (by decide) (by omega)) ?_
      rintro x F ⟨rfl, t2, k2⟩
      have t2 : mpS F T N (.inl e0) := by
        have t3 : mpS F T N (pst (nwN S T N p e)) := t2
        rw [hn] at t3; exact t3
      refine V_istore_2 d_mo_personTold_17 rfl ?_
      refine V_iconst 0 d_mo_personTold_18 ?_
      refine V_istore_3 d_mo_personTold_19 rfl ?_
      exact bad e0 hr (S 1 0).toNat _ _ (by omega) (by decide) t2 (k2.z (by decide) (by omega)) (by rw [k2.1 _ _ (by omega) (by omega)]; exact hc0)
    | inr u =>
      obtain ⟨l, q, d⟩ := u
      have hr : sPerson S T N p e = sFor T N (15 + S 1 1) 9 (S 1 0).toNat (addN S 1 (pk32 l)) 0 q d := by
        unfold sPerson; rw [sNew_nw, hn]
        show sFor T N (15 + S 1 1) 9 (addN S 1 (pk32 l) 1 0).toNat _ 0 q d = _
        rw [addN_cn (by decide), if_neg (by decide)]
      refine V_aload_0 d_mo_personTold_0 ?_
      refine V_iconst 1 d_mo_personTold_1 ?_
      refine V_bipush 8 d_mo_personTold_2 (by decide) ?_
      refine V_iload_1 d_mo_personTold_4 ?_
      refine V_cvI3 d_mo_personTold_5 ml_mo_267 mv_mo_isFull (by decide) (Nat.le_of_ble_eq_true rfl) is_mo (ok_isFull hT (by decide) (by decide) (by omega)) ?_
      rintro x F (⟨rfl, h1, t1, k1⟩ | ⟨rfl, h1, e1⟩)
      exact absurd (hc1.symm.trans h1) hc
      rw [e1]; clear e1 F
      refine V_if_eq 12 d_mo_personTold_8 (by decide) (by omega) (fun c8 => ?_) (fun c8 => by omega)
      refine V_aload_0 d_mo_personTold_12 ?_
      refine V_iconst 1 d_mo_personTold_13 ?_
      refine V_cvI1 d_mo_personTold_14 ml_mo_252 mv_mo_newName (by decide) (Nat.le_of_ble_eq_true rfl) is_mo (ok_newName hT hw hE.1 hW (by decide) (by omega)) ?_
      rintro x F ⟨rfl, t2, k2⟩
      have t2 : mpS F T N (.inr (q, d)) := by
        have t3 : mpS F T N (pst (nwN S T N p e)) := t2
        rw [hn] at t3; exact t3
      obtain ⟨ln, l2⟩ := k2.2 l q d hn
      refine V_istore_2 d_mo_personTold_17 rfl ?_
      refine V_iconst 0 d_mo_personTold_18 ?_
      refine V_istore_3 d_mo_personTold_19 rfl ?_
      exact good l ln (S 1 0).toNat _ q d _ _ (by omega) (by decide) t2 ⟨fun j i a b _ => k2.1 j i a b, l2, fun t a b => by omega, fun j i _ => rfl⟩ hr
end RN6
