/-! the reference: passes and prices -/
/-- what stands in the reference's cells -/
def mS (f S : q_F) : Prop := (f 246 7 = S 1 0 ∧ f 246 8 = S 1 1 ∧ f 246 9 = S 1 2 ∧ f 246 10 = S 1 3 ∧ f 246 12 = S 1 4 ∧ f 246 13 = S 1 5) ∧ (∀ t w, 0 ≤ t → t < S 1 0 → 0 ≤ w → w < 2 → f 248 (12 + 6 * w + t) = S (8 + t) w) ∧ (∀ p t, 0 ≤ p → p < S 1 1 → 0 ≤ t → t < S 1 0 → f 249 (48 + 6 * p + t) = S (15 + p) t) ∧ (∀ i t, 0 ≤ i → i < S 1 2 → 0 ≤ t → t < S 1 0 → f 250 (30 + 6 * i + t) = S (24 + i) t ∧ f 251 (30 + 6 * i + t) = S (30 + i) t) ∧ (∀ i, 0 ≤ i → i < S 1 2 → f 252 (5 + i) = S 35 i) ∧ (∀ s k, 0 ≤ s → s < S 1 4 → 0 ≤ k → k < 5 → f 254 (120 + 5 * s + k) = S (46 + s) k)
def mSr (f S : q_F) (L : List Int) : Prop := (∀ r, 0 ≤ r → r < S 1 5 → f 257 (6 + r) = S 106 r ∧ f 258 (6 + r) = S 107 r ∧ f 259 (6 + r) = S 106 (r + 1)) ∧ ∀ k : Nat, k < L.length → f 255 (1600 + (k : Int)) = L.getD k 0
def zK (f f' : q_F) : Prop := ∀ j k, ¬ (260 ≤ j ∧ j ≤ 263) → ¬ (j = 219 ∧ k = 57) → f' j k = f j k
section PAS
variable {D : q_D} {f f' f'' S : q_F} {A : q_As} {g h : Int} {L : List Int}
theorem zK.refl (f : q_F) : zK f f := fun _ _ _ _ => rfl
theorem zK.tr (h1 : zK f f') (h2 : zK f' f'') : zK f f'' := fun j k a b => by rw [h2 j k a b]; exact h1 j k a b
theorem lK.zz (h : lK f f') : zK f f' := fun j k a b => h j k (by omega) b
theorem zK.up {j k x : Int} (h : zK f f') (hj : 260 ≤ j ∧ j ≤ 263) : zK f (q_up f' j k x) := fun a b c d => by rw [q_up_ne (by omega)]; exact h a b c d
theorem mS.fr (h : mS f S) (hk : ∀ j k, 246 ≤ j ∧ j ≤ 254 → f' j k = f j k) : mS f' S := by
  obtain ⟨⟨a1, a2, a3, a4, a5, a6⟩, h2, h3, h4, h5, h6⟩ := h
  refine ⟨⟨?_, ?_, ?_, ?_, ?_, ?_⟩, fun t w a b c d => ?_, fun t w a b c d => ?_, fun t w a b c d => ?_, fun t a b => ?_, fun t w a b c d => ?_⟩
  · rw [hk _ _ (by omega)]; exact a1
  · rw [hk _ _ (by omega)]; exact a2
  · rw [hk _ _ (by omega)]; exact a3
  · rw [hk _ _ (by omega)]; exact a4
  · rw [hk _ _ (by omega)]; exact a5
  · rw [hk _ _ (by omega)]; exact a6
  · rw [hk _ _ (by omega)]; exact h2 t w a b c d
  · rw [hk _ _ (by omega)]; exact h3 t w a b c d
  · rw [hk _ _ (by omega), hk _ _ (by omega)]; exact h4 t w a b c d
  · rw [hk _ _ (by omega)]; exact h5 t a b
  · rw [hk _ _ (by omega)]; exact h6 t w a b c d
theorem mSr.fr (h : mSr f S L) (hk : ∀ j k, (j = 255 ∨ (257 ≤ j ∧ j ≤ 259)) → f' j k = f j k) : mSr f' S L := by
  refine ⟨fun r a b => ?_, fun k hk1 => ?_⟩
  · rw [hk _ _ (by omega), hk _ _ (by omega), hk _ _ (by omega)]; exact h.1 r a b
  · rw [hk _ _ (by omega)]; exact h.2 k hk1
theorem ok_seenManyS (hS : mS f S) : OkI D m_mo_seenMany [vr D 219] (Zg g h) f (fun r f' => r = S 1 4 ∧ f' = f) := by
  have e := hS.1.2.2.2.2.1
  refine OkI_of (L0 := [vr D 219]) mi_mo_seenMany rfl rfl (Nat.le_of_ble_eq_true rfl) (fun C hR => ?_)
  refine V_aload_0 d_mo_seenMany_0 ?_
  skip
  refine V_getR d_mo_seenMany_1 fl_mo_93 is_mo r_mo_many ?_
  skip
  refine V_bipush 12 d_mo_seenMany_4 (by decide) ?_
  skip
  refine V_iald d_mo_seenMany_6 is_mo_many (by omega) (by omega) ?_
  skip
  refine V_ireturn d_mo_seenMany_7 (hR _ _ ?_)
  exact ⟨e, rfl⟩
theorem ok_shadeManyS (hS : mS f S) : OkI D m_mo_shadeMany [vr D 219] (Zg g h) f (fun r f' => r = S 1 2 ∧ f' = f) := by
  have e := hS.1.2.2.1
  refine OkI_of (L0 := [vr D 219]) mi_mo_shadeMany rfl rfl (Nat.le_of_ble_eq_true rfl) (fun C hR => ?_)
  refine V_aload_0 d_mo_shadeMany_0 ?_
  refine V_getR d_mo_shadeMany_1 fl_mo_93 is_mo r_mo_many ?_
  refine V_bipush 9 d_mo_shadeMany_4 (by decide) ?_
  refine V_iald d_mo_shadeMany_6 is_mo_many (by omega) (by omega) ?_
  refine V_ireturn d_mo_shadeMany_7 (hR _ _ ?_)
  exact ⟨e, rfl⟩
theorem ok_personOfS (hS : mS f S) (hW : pW S) {s : Int} (hs : 0 ≤ s ∧ s < S 1 4) : OkI D m_mo_personOf [vr D 219, vi s] (Zg g h) f (fun r f' => r = S (46 + s) 0 ∧ f' = f) := by
  have b4 := hW.2.2.2.2.1
  have e := hS.2.2.2.2.2 s 0 hs.1 hs.2 (by decide) (by decide)
  rw [Int.add_zero] at e
  refine OkI_of (L0 := [vr D 219, vi s]) mi_mo_personOf rfl rfl (Nat.le_of_ble_eq_true rfl) (fun C hR => ?_)
  refine V_aload_0 d_mo_personOf_0 ?_
  refine V_getR d_mo_personOf_1 fl_mo_118 is_mo r_mo_sighted ?_
  refine V_bipush 120 d_mo_personOf_4 (by decide) ?_
  refine V_iconst 5 d_mo_personOf_6 ?_
  refine V_iload_1 d_mo_personOf_7 ?_
  refine V_imul d_mo_personOf_8 ?_
  refine V_iadd d_mo_personOf_9 ?_
  refine V_iald d_mo_personOf_10 is_mo_sighted (by omega) (by omega) ?_
  refine V_ireturn d_mo_personOf_11 (hR _ _ ?_)
  exact ⟨e, rfl⟩
theorem ok_placeOfS (hS : mS f S) (hW : pW S) {s : Int} (hs : 0 ≤ s ∧ s < S 1 4) : OkI D m_mo_placeOf [vr D 219, vi s] (Zg g h) f (fun r f' => r = S (46 + s) 1 ∧ f' = f) := by
  have b4 := hW.2.2.2.2.1
  have e := hS.2.2.2.2.2 s 1 hs.1 hs.2 (by decide) (by decide)
  refine OkI_of (L0 := [vr D 219, vi s]) mi_mo_placeOf rfl rfl (Nat.le_of_ble_eq_true rfl) (fun C hR => ?_)
  refine V_aload_0 d_mo_placeOf_0 ?_
  refine V_getR d_mo_placeOf_1 fl_mo_118 is_mo r_mo_sighted ?_
  refine V_bipush 120 d_mo_placeOf_4 (by decide) ?_
  refine V_iconst 5 d_mo_placeOf_6 ?_
  refine V_iload_1 d_mo_placeOf_7 ?_
  refine V_imul d_mo_placeOf_8 ?_
  refine V_iadd d_mo_placeOf_9 ?_
  refine V_iconst 1 d_mo_placeOf_10 ?_
  refine V_iadd d_mo_placeOf_11 ?_
  refine V_iald d_mo_placeOf_12 is_mo_sighted (by omega) (by omega) ?_
  refine V_ireturn d_mo_placeOf_13 (hR _ _ ?_)
  exact ⟨e, rfl⟩
theorem ok_hourOfS (hS : mS f S) (hW : pW S) {s : Int} (hs : 0 ≤ s ∧ s < S 1 4) : OkI D m_mo_hourOf [vr D 219, vi s] (Zg g h) f (fun r f' => r = S (46 + s) 2 ∧ f' = f) := by
  have b4 := hW.2.2.2.2.1
  have e := hS.2.2.2.2.2 s 2 hs.1 hs.2 (by decide) (by decide)
  refine OkI_of (L0 := [vr D 219, vi s]) mi_mo_hourOf rfl rfl (Nat.le_of_ble_eq_true rfl) (fun C hR => ?_)
  refine V_aload_0 d_mo_hourOf_0 ?_
  refine V_getR d_mo_hourOf_1 fl_mo_118 is_mo r_mo_sighted ?_
  refine V_bipush 120 d_mo_hourOf_4 (by decide) ?_
  refine V_iconst 5 d_mo_hourOf_6 ?_
  refine V_iload_1 d_mo_hourOf_7 ?_
  refine V_imul d_mo_hourOf_8 ?_
  refine V_iadd d_mo_hourOf_9 ?_
  refine V_iconst 2 d_mo_hourOf_10 ?_
  refine V_iadd d_mo_hourOf_11 ?_
  refine V_iald d_mo_hourOf_12 is_mo_sighted (by omega) (by omega) ?_
  refine V_ireturn d_mo_hourOf_13 (hR _ _ ?_)
  exact ⟨e, rfl⟩
theorem ok_priceNow (hS : mS f S) (hSr : mSr f S L) (hY : pY S) (hX : xRu S L) (hl : (L.length : Int) ≤ 1600) {i s : Int} (hi : 0 ≤ i ∧ i < S 1 2) (hs : 0 ≤ s ∧ s < S 1 4) (hka : kaS f (gE S i s)) : OkI D m_mo_priceNow [vr D 219, vi (S 35 i)] (Zg g h) f (fun x f' => x = prc S L i s ∧ lK f f') := by
  have hW := hY.1
  have b5 := hW.2.2.2.2.2.1
  have hE := gE_bd hY hi hs
  have hfe := (hY.2.2.1 i hi.1 hi.2).1
  refine OkI_of (L0 := [vr D 219, vi (S 35 i), vu, vu, vu]) mi_mo_priceNow rfl rfl (Nat.le_of_ble_eq_true rfl) (fun C hR => ?_)
  have loop : ∀ (m : Nat) (r : Int) (F : q_F) (u w : Value), 0 ≤ r → r + m = S 1 5 → lK f F → prcF S L i s m r = prc S L i s → V D C m_mo_priceNow 3 [vr D 219, vi (S 35 i), vi (6 + r), u, w] [] (Zg g h) F := by
    intro m
    induction m with
    | zero =>
      intro r F u w r0 rm hk hr
      have c5 : F 246 13 = S 1 5 := by rw [hk _ _ (by omega) (by omega)]; exact hS.1.2.2.2.2.2
      refine V_iload_2 d_mo_priceNow_3 ?_
      refine V_bipush 6 d_mo_priceNow_4 (by decide) ?_
      refine V_aload_0 d_mo_priceNow_6 ?_
      refine V_getR d_mo_priceNow_7 fl_mo_93 is_mo r_mo_many ?_
      refine V_bipush 13 d_mo_priceNow_10 (by decide) ?_
      refine V_iald d_mo_priceNow_12 is_mo_many (by omega) (by omega) ?_
      rw [c5]
      refine V_iadd d_mo_priceNow_13 ?_
      refine V_icmp_ge 91 d_mo_priceNow_14 (by decide) (by omega) (by omega) (fun c14 => ?_) (fun c14 => by omega)
      refine V_iload_1 d_mo_priceNow_91 ?_
      refine V_ireturn d_mo_priceNow_92 (hR _ _ ?_)
      exact ⟨hr, hk⟩
    | succ m ih =>
      intro r F u w r0 rm hk hr
      have c5 : F 246 13 = S 1 5 := by rw [hk _ _ (by omega) (by omega)]; exact hS.1.2.2.2.2.2
      obtain ⟨a, c1, c2, z, v1, v2, L1, e6, e7, e8, p1, p2, w1, w2, q1, q2⟩ := hX.at hE r0 (by omega)
      have rr := hSr.1 r r0 (by omega)
      have f1 : F 257 (6 + r) = S 106 r := by rw [hk _ _ (by omega) (by omega)]; exact rr.1
      have f2 : F 258 (6 + r) = S 107 r := by rw [hk _ _ (by omega) (by omega)]; exact rr.2.1
      have f3 : F 259 (6 + r) = S 106 (r + 1) := by rw [hk _ _ (by omega) (by omega)]; exact rr.2.2
      have hcF : ∀ k : Nat, k < L.length → F 255 (1600 + (k : Int)) = L.getD k 0 := fun k hk1 => by rw [hk _ _ (by omega) (by omega)]; exact hSr.2 k hk1
      unfold prcF at hr
      rw [q1, q2] at hr
      have okT : OkL D m_mo_told [vr D 219, vi (S 107 r), vi (S 106 (r + 1))] (Zg g h) F (fun x f' => x = v2 ∧ lK F f') := ok_told (a := a ++ c1) (c0 := c2) (z := z) (by rw [L1, List.append_assoc]) hl hcF (hka.fr hk) hE w2 (by rw [List.length_append]; push_cast; exact e7) (by rw [List.length_append]; push_cast; exact e8)
      by_cases hv : v2 = 1
      · rw [if_pos hv] at hr
        refine V_iload_2 d_mo_priceNow_3 ?_
        refine V_bipush 6 d_mo_priceNow_4 (by decide) ?_
        refine V_aload_0 d_mo_priceNow_6 ?_
        refine V_getR d_mo_priceNow_7 fl_mo_93 is_mo r_mo_many ?_
        refine V_bipush 13 d_mo_priceNow_10 (by decide) ?_
        refine V_iald d_mo_priceNow_12 is_mo_many (by omega) (by omega) ?_
        rw [c5]
        refine V_iadd d_mo_priceNow_13 ?_
        refine V_icmp_ge 91 d_mo_priceNow_14 (by decide) (by omega) (by omega) (fun c14 => by omega) (fun c14 => ?_)
        refine V_aload_0 d_mo_priceNow_17 ?_
        refine V_aload_0 d_mo_priceNow_18 ?_
        refine V_getR d_mo_priceNow_19 fl_mo_130 is_mo r_mo_sumEnd ?_
        refine V_iload_2 d_mo_priceNow_22 ?_
        refine V_iald d_mo_priceNow_23 is_mo_sumEnd (by omega) (by omega) ?_
        rw [f2]
        refine V_aload_0 d_mo_priceNow_24 ?_
        refine V_getR d_mo_priceNow_25 fl_mo_133 is_mo r_mo_testEnd ?_
        refine V_iload_2 d_mo_priceNow_28 ?_
        refine V_iald d_mo_priceNow_29 is_mo_testEnd (by omega) (by omega) ?_
        rw [f3]
        refine V_cvL2 d_mo_priceNow_30 ml_mo_431 mv_mo_told (by decide) (Nat.le_of_ble_eq_true rfl) is_mo (okT) ?_
        rintro x F2 ⟨rfl, k2⟩
        have f12 : F2 257 (6 + r) = S 106 r := by rw [k2 _ _ (by omega) (by omega)]; exact f1
        have f22 : F2 258 (6 + r) = S 107 r := by rw [k2 _ _ (by omega) (by omega)]; exact f2
        refine V_lconst1 d_mo_priceNow_33 ?_
        refine V_lcmp_eq 41 d_mo_priceNow_34 d_mo_priceNow_35 (by decide) (by omega) (by omega) (fun c34 => ?_) (fun c34 => by omega)
        refine V_aload_0 d_mo_priceNow_41 ?_
        refine V_aload_0 d_mo_priceNow_42 ?_
        refine V_getR d_mo_priceNow_43 fl_mo_127 is_mo r_mo_sumFrom ?_
        refine V_iload_2 d_mo_priceNow_46 ?_
        refine V_iald d_mo_priceNow_47 is_mo_sumFrom (by omega) (by omega) ?_
        rw [f12]
        refine V_aload_0 d_mo_priceNow_48 ?_
        refine V_getR d_mo_priceNow_49 fl_mo_130 is_mo r_mo_sumEnd ?_
        refine V_iload_2 d_mo_priceNow_52 ?_
        refine V_iald d_mo_priceNow_53 is_mo_sumEnd (by omega) (by omega) ?_
        rw [f22]
        refine V_cvL2 d_mo_priceNow_54 ml_mo_431 mv_mo_told (by decide) (Nat.le_of_ble_eq_true rfl) is_mo (ok_told (a := a) (c0 := c1) (z := c2 ++ z) L1 hl (fun k hk1 => by rw [k2 _ _ (by omega) (by omega)]; exact hcF k hk1) ((hka.fr hk).fr k2) hE w1 e6 e7) ?_
        rintro y F3 ⟨rfl, k3⟩
        refine V_lstore_3 d_mo_priceNow_57 rfl ?_
        refine V_lload_3 d_mo_priceNow_58 ?_
        refine V_lconst0 d_mo_priceNow_59 ?_
        refine V_lcmp_ge 68 d_mo_priceNow_60 d_mo_priceNow_61 (by decide) (by omega) (by omega) (fun c60 => ?_) (fun c60 => ?_)
        · skip
          refine V_lload_3 d_mo_priceNow_68 ?_
          refine V_ldc2 999 d_mo_priceNow_69 co_mo_435 rfl ?_
          refine V_lcmp_le 82 d_mo_priceNow_72 d_mo_priceNow_73 (by decide) (by omega) (by omega) (fun c72 => ?_) (fun c72 => ?_)
          · skip
            refine V_lload_3 d_mo_priceNow_82 ?_
            refine V_l2i d_mo_priceNow_83 ?_
            refine V_ireturn d_mo_priceNow_84 (hR _ _ ?_)
            exact ⟨by omega, (hk.tr k2).tr k3⟩
          · skip
            refine V_sipush 999 d_mo_priceNow_76 (by decide) ?_
            refine V_goto 84 d_mo_priceNow_79 (by decide) ?_
            refine V_ireturn d_mo_priceNow_84 (hR _ _ ?_)
            exact ⟨by omega, (hk.tr k2).tr k3⟩
        · skip
          refine V_iconst 0 d_mo_priceNow_64 ?_
          refine V_goto 84 d_mo_priceNow_65 (by decide) ?_
          refine V_ireturn d_mo_priceNow_84 (hR _ _ ?_)
          exact ⟨by omega, (hk.tr k2).tr k3⟩
      · rw [if_neg hv] at hr
        refine V_iload_2 d_mo_priceNow_3 ?_
        refine V_bipush 6 d_mo_priceNow_4 (by decide) ?_
        refine V_aload_0 d_mo_priceNow_6 ?_
        refine V_getR d_mo_priceNow_7 fl_mo_93 is_mo r_mo_many ?_
        refine V_bipush 13 d_mo_priceNow_10 (by decide) ?_
        refine V_iald d_mo_priceNow_12 is_mo_many (by omega) (by omega) ?_
        rw [c5]
        refine V_iadd d_mo_priceNow_13 ?_
        refine V_icmp_ge 91 d_mo_priceNow_14 (by decide) (by omega) (by omega) (fun c14 => by omega) (fun c14 => ?_)
        refine V_aload_0 d_mo_priceNow_17 ?_
        refine V_aload_0 d_mo_priceNow_18 ?_
        refine V_getR d_mo_priceNow_19 fl_mo_130 is_mo r_mo_sumEnd ?_
        refine V_iload_2 d_mo_priceNow_22 ?_
        refine V_iald d_mo_priceNow_23 is_mo_sumEnd (by omega) (by omega) ?_
        rw [f2]
        refine V_aload_0 d_mo_priceNow_24 ?_
        refine V_getR d_mo_priceNow_25 fl_mo_133 is_mo r_mo_testEnd ?_
        refine V_iload_2 d_mo_priceNow_28 ?_
        refine V_iald d_mo_priceNow_29 is_mo_testEnd (by omega) (by omega) ?_
        rw [f3]
        refine V_cvL2 d_mo_priceNow_30 ml_mo_431 mv_mo_told (by decide) (Nat.le_of_ble_eq_true rfl) is_mo (okT) ?_
        rintro x F2 ⟨rfl, k2⟩
        refine V_lconst1 d_mo_priceNow_33 ?_
        refine V_lcmp_eq 41 d_mo_priceNow_34 d_mo_priceNow_35 (by decide) (by omega) (by omega) (fun c34 => by omega) (fun c34 => ?_)
        refine V_goto 85 d_mo_priceNow_38 (by decide) ?_
        refine V_iinc_2 d_mo_priceNow_85 rfl ?_
        rw [show (6 : Int) + r + 1 = 6 + (r + 1) by omega]
        refine V_goto 3 d_mo_priceNow_88 (by decide) ?_
        exact ih (r + 1) F2 _ _ (by omega) (by omega) (hk.tr k2) hr
  have := loop (S 1 5).toNat 0 f vu vu (by decide) (by omega) (lK.refl f) rfl
  rw [Int.add_zero] at this
  refine V_bipush 6 d_mo_priceNow_0 (by decide) ?_
  refine V_istore_2 d_mo_priceNow_2 rfl ?_
  exact this
theorem ok_passes (hS : mS f S) (hSr : mSr f S L) (hY : pY S) (hX : xRu S L) (hl : (L.length : Int) ≤ 1600) : OkV D m_mo_passes [vr D 219] (Zg g h) f (fun f' => zK f f' ∧ ∀ i s, 0 ≤ i → i < S 1 2 → 0 ≤ s → s < S 1 4 → f' 262 (24 * i + s) = pss S i s ∧ f' 263 (24 * i + s) = prc S L i s) := by
  have hW := hY.1
  have b0 := hW.1
  have b1 := hW.2.1
  have b2 := hW.2.2.1
  have b4 := hW.2.2.2.2.1
  refine OkV_of (L0 := [vr D 219, vu, vu, vu, vu, vu]) mi_mo_passes rfl rfl (Nat.le_of_ble_eq_true rfl) (fun C hR => ?_)
  have mSF : ∀ F : q_F, zK f F → mS F S := fun F hk => hS.fr (fun j k hj => hk j k (by omega) (by omega))
  have mSrF : ∀ F : q_F, zK f F → mSr F S L := fun F hk => hSr.fr (fun j k hj => hk j k (by omega) (by omega))
  have inner : ∀ (m : Nat) (i s t v u : Int) (F : q_F), zK f F → 0 ≤ i → i < S 1 2 → 0 ≤ s → s < S 1 4 → 0 ≤ t → t + m = S 1 0 → (0 ≤ v ∧ v ≤ 1000) → pssF S i s m t v = pss S i s → unlF S i s m t u = unl S i s → (∀ w : Int, V D C m_mo_passes 165 [vr D 219, vi i, vi s, vi (pss S i s), vi (unl S i s), vi w] [] (Zg g h) F) → V D C m_mo_passes 30 [vr D 219, vi i, vi s, vi v, vi u, vi t] [] (Zg g h) F := by
    intro m
    induction m with
    | zero =>
      intro i s t v u F hk i0 i1 s0 s1 t0 tm hv hp hu K
      have c0 := (mSF F hk).1.1
      have hp : v = pss S i s := hp
      have hu : u = unl S i s := hu
      subst hp
      subst hu
      refine V_iload_5 d_mo_passes_30 ?_
      refine V_aload_0 d_mo_passes_32 ?_
      refine V_getR d_mo_passes_33 fl_mo_93 is_mo r_mo_many ?_
      refine V_bipush 7 d_mo_passes_36 (by decide) ?_
      refine V_iald d_mo_passes_38 is_mo_many (by omega) (by omega) ?_
      rw [c0]
      refine V_icmp_ge 165 d_mo_passes_39 (by decide) (by omega) (by omega) (fun c39 => ?_) (fun c39 => by omega)
      exact K _
    | succ m ih =>
      intro i s t v u F hk i0 i1 s0 s1 t0 tm hv hp hu K
      have hSF := mSF F hk
      have c0 := hSF.1.1
      have hx := hY.2.1 s s0 s1
      have h8 := hY.2.2.2.2 t (S (46 + s) 4) t0 (by omega) hx.2.2.2.2.1 (by omega)
      have rl := hY.2.2.2.1 (S (46 + s) 0) t (by omega) (by omega) t0 (by omega)
      have rs := (hY.2.2.1 i i0 i1).2 t t0 (by omega)
      have ow := hSF.2.2.2.1 i t i0 i1 t0 (by omega)
      have lo := hSF.2.2.1 (S (46 + s) 0) t (by omega) (by omega) t0 (by omega)
      have sw := hSF.2.1 t (S (46 + s) 4) t0 (by omega) (by omega) (by omega)
      have s3 := hSF.2.2.2.2.2 s 3 s0 s1 (by decide) (by decide)
      have s4 := hSF.2.2.2.2.2 s 4 s0 s1 (by decide) (by decide)
      have hm := mul_rg h8 hx.2.2.2.1
      have hst := stp_rg hv hm
      have hp : pssF S i s m (t + 1) (if ¬ S (24 + i) t = S (15 + S (46 + s) 0) t ∧ S (30 + i) t = 0 then v * (10000 - S (8 + t) (S (46 + s) 4) * S (46 + s) 3) / 10000 else v) = pss S i s := hp
      have hu : unlF S i s m (t + 1) (if S (24 + i) t = S (15 + S (46 + s) 0) t then u else u + 1) = unl S i s := hu
      refine V_iload_5 d_mo_passes_30 ?_
      refine V_aload_0 d_mo_passes_32 ?_
      refine V_getR d_mo_passes_33 fl_mo_93 is_mo r_mo_many ?_
      refine V_bipush 7 d_mo_passes_36 (by decide) ?_
      refine V_iald d_mo_passes_38 is_mo_many (by omega) (by omega) ?_
      rw [c0]
      refine V_icmp_ge 165 d_mo_passes_39 (by decide) (by omega) (by omega) (fun c39 => by omega) (fun c39 => ?_)
      refine V_aload_0 d_mo_passes_42 ?_
      refine V_getR d_mo_passes_43 fl_mo_106 is_mo r_mo_shadeHas ?_
      refine V_bipush 30 d_mo_passes_46 (by decide) ?_
      refine V_bipush 6 d_mo_passes_48 (by decide) ?_
      refine V_iload_1 d_mo_passes_50 ?_
      refine V_imul d_mo_passes_51 ?_
      refine V_iadd d_mo_passes_52 ?_
      refine V_iload_5 d_mo_passes_53 ?_
      refine V_iadd d_mo_passes_55 ?_
      refine V_iald d_mo_passes_56 is_mo_shadeHas (by omega) (by omega) ?_
      rw [ow.1]
      refine V_aload_0 d_mo_passes_57 ?_
      refine V_getR d_mo_passes_58 fl_mo_103 is_mo r_mo_personHas ?_
      refine V_bipush 48 d_mo_passes_61 (by decide) ?_
      refine V_bipush 6 d_mo_passes_63 (by decide) ?_
      refine V_aload_0 d_mo_passes_65 ?_
      refine V_iload_2 d_mo_passes_66 ?_
      refine V_cvI1 d_mo_passes_67 ml_mo_425 mv_mo_personOf (by decide) (Nat.le_of_ble_eq_true rfl) is_mo (ok_personOfS hSF hW (by omega)) ?_
      rintro _ f2 ⟨rfl, e2⟩
      rw [e2]; clear e2 f2
      refine V_imul d_mo_passes_70 ?_
      refine V_iadd d_mo_passes_71 ?_
      refine V_iload_5 d_mo_passes_72 ?_
      refine V_iadd d_mo_passes_74 ?_
      refine V_iald d_mo_passes_75 is_mo_personHas (by omega) (by omega) ?_
      rw [lo]
      refine V_icmp_ne 82 d_mo_passes_76 (by decide) (by omega) (by omega) (fun c76 => ?_) (fun c76 => ?_)
      · skip
        rw [if_neg c76] at hu
        refine V_iinc_4 d_mo_passes_82 rfl ?_
        refine V_aload_0 d_mo_passes_85 ?_
        refine V_getR d_mo_passes_86 fl_mo_109 is_mo r_mo_fakes ?_
        refine V_bipush 30 d_mo_passes_89 (by decide) ?_
        refine V_bipush 6 d_mo_passes_91 (by decide) ?_
        refine V_iload_1 d_mo_passes_93 ?_
        refine V_imul d_mo_passes_94 ?_
        refine V_iadd d_mo_passes_95 ?_
        refine V_iload_5 d_mo_passes_96 ?_
        refine V_iadd d_mo_passes_98 ?_
        refine V_iald d_mo_passes_99 is_mo_fakes (by omega) (by omega) ?_
        rw [ow.2]
        refine V_iconst 1 d_mo_passes_100 ?_
        refine V_icmp_ne 107 d_mo_passes_101 (by decide) (by omega) (by omega) (fun c101 => ?_) (fun c101 => ?_)
        · skip
          rw [if_pos ⟨c76, by omega⟩] at hp
          refine V_iload_3 d_mo_passes_107 ?_
          refine V_sipush 10000 d_mo_passes_108 (by decide) ?_
          refine V_aload_0 d_mo_passes_111 ?_
          refine V_getR d_mo_passes_112 fl_mo_100 is_mo r_mo_shows ?_
          refine V_bipush 12 d_mo_passes_115 (by decide) ?_
          refine V_bipush 6 d_mo_passes_117 (by decide) ?_
          refine V_aload_0 d_mo_passes_119 ?_
          refine V_getR d_mo_passes_120 fl_mo_118 is_mo r_mo_sighted ?_
          refine V_bipush 120 d_mo_passes_123 (by decide) ?_
          refine V_iconst 5 d_mo_passes_125 ?_
          refine V_iload_2 d_mo_passes_126 ?_
          refine V_imul d_mo_passes_127 ?_
          refine V_iadd d_mo_passes_128 ?_
          refine V_iconst 4 d_mo_passes_129 ?_
          refine V_iadd d_mo_passes_130 ?_
          refine V_iald d_mo_passes_131 is_mo_sighted (by omega) (by omega) ?_
          rw [s4]
          refine V_imul d_mo_passes_132 ?_
          refine V_iadd d_mo_passes_133 ?_
          refine V_iload_5 d_mo_passes_134 ?_
          refine V_iadd d_mo_passes_136 ?_
          refine V_iald d_mo_passes_137 is_mo_shows (by omega) (by omega) ?_
          rw [sw]
          refine V_aload_0 d_mo_passes_138 ?_
          refine V_getR d_mo_passes_139 fl_mo_118 is_mo r_mo_sighted ?_
          refine V_bipush 120 d_mo_passes_142 (by decide) ?_
          refine V_iconst 5 d_mo_passes_144 ?_
          refine V_iload_2 d_mo_passes_145 ?_
          refine V_imul d_mo_passes_146 ?_
          refine V_iadd d_mo_passes_147 ?_
          refine V_iconst 3 d_mo_passes_148 ?_
          refine V_iadd d_mo_passes_149 ?_
          refine V_iald d_mo_passes_150 is_mo_sighted (by omega) (by omega) ?_
          rw [s3]
          refine V_imul d_mo_passes_151 ?_
          refine V_isub d_mo_passes_152 ?_
          refine V_imul d_mo_passes_153 ?_
          refine V_sipush 10000 d_mo_passes_154 (by decide) ?_
          refine V_idiv d_mo_passes_157 (by omega) (by omega) ?_
          refine V_istore_3 d_mo_passes_158 rfl ?_
          refine V_iinc_5 d_mo_passes_159 rfl ?_
          refine V_goto 30 d_mo_passes_162 (by decide) ?_
          exact ih i s _ _ _ F hk i0 i1 s0 s1 (by omega) (by omega) hst.2 hp hu K
        · skip
          rw [if_neg (fun hc => by omega)] at hp
          refine V_goto 159 d_mo_passes_104 (by decide) ?_
          refine V_iinc_5 d_mo_passes_159 rfl ?_
          refine V_goto 30 d_mo_passes_162 (by decide) ?_
          exact ih i s _ _ _ F hk i0 i1 s0 s1 (by omega) (by omega) hv hp hu K
      · skip
        rw [if_pos (by omega)] at hu
        rw [if_neg (fun hc => hc.1 (by omega))] at hp
        refine V_goto 159 d_mo_passes_79 (by decide) ?_
        refine V_iinc_5 d_mo_passes_159 rfl ?_
        refine V_goto 30 d_mo_passes_162 (by decide) ?_
        exact ih i s _ _ _ F hk i0 i1 s0 s1 (by omega) (by omega) hv hp hu K
  have mid12 : ∀ (m : Nat) (i s : Int) (F : q_F) (u v w : Value), zK f F → 0 ≤ i → i < S 1 2 → 0 ≤ s → s + m = S 1 4 → (∀ a b, 0 ≤ a → a < S 1 2 → 0 ≤ b → b < S 1 4 → a < i ∨ (a = i ∧ b < s) → F 262 (24 * a + b) = pss S a b ∧ F 263 (24 * a + b) = prc S L a b) → (∀ (F' : q_F) (t u v w : Value), zK f F' → (∀ a b, 0 ≤ a → a < S 1 2 → 0 ≤ b → b < S 1 4 → a < i + 1 → F' 262 (24 * a + b) = pss S a b ∧ F' 263 (24 * a + b) = prc S L a b) → V D C m_mo_passes 2 [vr D 219, vi (i + 1), t, u, v, w] [] (Zg g h) F') → V D C m_mo_passes 12 [vr D 219, vi i, vi s, u, v, w] [] (Zg g h) F := by
    intro m
    induction m with
    | zero =>
      intro i s F u v w hk i0 i1 s0 sm hP K
      refine V_iload_2 d_mo_passes_12 ?_
      refine V_aload_0 d_mo_passes_13 ?_
      refine V_cvI0 d_mo_passes_14 ml_mo_328 mv_mo_seenMany (by decide) (Nat.le_of_ble_eq_true rfl) is_mo (ok_seenManyS (mSF F hk)) ?_
      rintro _ f2 ⟨rfl, e2⟩
      rw [e2]; clear e2 f2
      refine V_icmp_ge 273 d_mo_passes_17 (by decide) (by omega) (by omega) (fun c17 => ?_) (fun c17 => by omega)
      refine V_iinc_1 d_mo_passes_273 rfl ?_
      refine V_goto 2 d_mo_passes_276 (by decide) ?_
      exact K F _ _ _ _ hk (fun a b a0 a1 b0 b1 ho => hP a b a0 a1 b0 b1 (by omega))
    | succ m ih =>
      intro i s F u v w hk i0 i1 s0 sm hP K
      have hx := hY.2.1 s s0 (by omega)
      have prg := pss_rg hY ⟨i0, i1⟩ (s := s) ⟨s0, by omega⟩
      have K165 : ∀ w : Int, V D C m_mo_passes 165 [vr D 219, vi i, vi s, vi (pss S i s), vi (unl S i s), vi w] [] (Zg g h) F := by
        intro w
        have hSF := mSF F hk
        have fe := hSF.2.2.2.2.1 i i0 i1
        have e2 := hSF.2.2.2.2.2 s 2 s0 (by omega) (by decide) (by decide)
        have e3 := hSF.2.2.2.2.2 s 3 s0 (by omega) (by decide) (by decide)
        have e4 := hSF.2.2.2.2.2 s 4 s0 (by omega) (by decide) (by decide)
        have pk : zK f (q_up (q_up (q_up (q_up (q_up (q_up (q_up F 262 (24 * i + s) (pss S i s)) 261 0 (S 35 i)) 261 1 (S (46 + s) 2)) 261 2 (S (46 + s) 3)) 261 3 (S (46 + s) 4)) 261 4 (unl S i s)) 261 5 (pss S i s)) := ((((((hk.up (by decide)).up (by decide)).up (by decide)).up (by decide)).up (by decide)).up (by decide)).up (by decide)
        have ka : kaS (q_up (q_up (q_up (q_up (q_up (q_up (q_up F 262 (24 * i + s) (pss S i s)) 261 0 (S 35 i)) 261 1 (S (46 + s) 2)) 261 2 (S (46 + s) 3)) 261 3 (S (46 + s) 4)) 261 4 (unl S i s)) 261 5 (pss S i s)) (gE S i s) := by
          refine ⟨?_, ?_, ?_, ?_, ?_, ?_⟩
          · rw [q_up_ne (by omega), q_up_ne (by omega), q_up_ne (by omega), q_up_ne (by omega), q_up_ne (by omega), q_up_eq]; rfl
          · rw [q_up_ne (by omega), q_up_ne (by omega), q_up_ne (by omega), q_up_ne (by omega), q_up_eq]; rfl
          · rw [q_up_ne (by omega), q_up_ne (by omega), q_up_ne (by omega), q_up_eq]; rfl
          · rw [q_up_ne (by omega), q_up_ne (by omega), q_up_eq]; rfl
          · rw [q_up_ne (by omega), q_up_eq]; rfl
          · rw [q_up_eq]; rfl
        have g2 : ∀ a b, ¬ (a = i ∧ b = s) → 0 ≤ b → b < 24 → q_up (q_up (q_up (q_up (q_up (q_up (q_up F 262 (24 * i + s) (pss S i s)) 261 0 (S 35 i)) 261 1 (S (46 + s) 2)) 261 2 (S (46 + s) 3)) 261 3 (S (46 + s) 4)) 261 4 (unl S i s)) 261 5 (pss S i s) 262 (24 * a + b) = F 262 (24 * a + b) := fun a b hn hb0 hb1 => by
          rw [q_up_ne (by omega), q_up_ne (by omega), q_up_ne (by omega), q_up_ne (by omega), q_up_ne (by omega), q_up_ne (by omega), q_up_ne (by omega)]
        have g3 : q_up (q_up (q_up (q_up (q_up (q_up (q_up F 262 (24 * i + s) (pss S i s)) 261 0 (S 35 i)) 261 1 (S (46 + s) 2)) 261 2 (S (46 + s) 3)) 261 3 (S (46 + s) 4)) 261 4 (unl S i s)) 261 5 (pss S i s) 262 (24 * i + s) = pss S i s := by
          rw [q_up_ne (by omega), q_up_ne (by omega), q_up_ne (by omega), q_up_ne (by omega), q_up_ne (by omega), q_up_ne (by omega), q_up_eq]
        have g4 : ∀ k, q_up (q_up (q_up (q_up (q_up (q_up (q_up F 262 (24 * i + s) (pss S i s)) 261 0 (S 35 i)) 261 1 (S (46 + s) 2)) 261 2 (S (46 + s) 3)) 261 3 (S (46 + s) 4)) 261 4 (unl S i s)) 261 5 (pss S i s) 263 k = F 263 k := fun k => by
          rw [q_up_ne (by omega), q_up_ne (by omega), q_up_ne (by omega), q_up_ne (by omega), q_up_ne (by omega), q_up_ne (by omega), q_up_ne (by omega)]
        generalize hGG : q_up (q_up (q_up (q_up (q_up (q_up (q_up F 262 (24 * i + s) (pss S i s)) 261 0 (S 35 i)) 261 1 (S (46 + s) 2)) 261 2 (S (46 + s) 3)) 261 3 (S (46 + s) 4)) 261 4 (unl S i s)) 261 5 (pss S i s) = G at *
        have feG := (mSF G pk).2.2.2.2.1 i i0 i1
        refine V_aload_0 d_mo_passes_165 ?_
        refine V_getR d_mo_passes_166 fl_mo_142 is_mo r_mo_passOf ?_
        refine V_bipush 24 d_mo_passes_169 (by decide) ?_
        refine V_iload_1 d_mo_passes_171 ?_
        refine V_imul d_mo_passes_172 ?_
        refine V_iload_2 d_mo_passes_173 ?_
        refine V_iadd d_mo_passes_174 ?_
        refine V_iload_3 d_mo_passes_175 ?_
        refine V_iast d_mo_passes_176 is_mo_passOf (by omega) (by omega) ?_
        refine V_aload_0 d_mo_passes_177 ?_
        refine V_getR d_mo_passes_178 fl_mo_139 is_mo r_mo_ask ?_
        refine V_iconst 0 d_mo_passes_181 ?_
        refine V_aload_0 d_mo_passes_182 ?_
        refine V_getR d_mo_passes_183 fl_mo_112 is_mo r_mo_fees ?_
        refine V_iconst 5 d_mo_passes_186 ?_
        refine V_iload_1 d_mo_passes_187 ?_
        refine V_iadd d_mo_passes_188 ?_
        refine V_iald d_mo_passes_189 is_mo_fees (by omega) (by omega) ?_
        rw [q_up_ne (by omega), fe]
        refine V_iast d_mo_passes_190 is_mo_ask (by omega) (by omega) ?_
        refine V_iconst 1 d_mo_passes_191 ?_
        refine V_istore_5 d_mo_passes_192 rfl ?_
        refine V_iload_5 d_mo_passes_194 ?_
        refine V_iconst 4 d_mo_passes_196 ?_
        refine V_icmp_ge 229 d_mo_passes_197 (by decide) (by omega) (by omega) (fun c197 => by omega) (fun c197 => ?_)
        refine V_aload_0 d_mo_passes_200 ?_
        refine V_getR d_mo_passes_201 fl_mo_139 is_mo r_mo_ask ?_
        refine V_iload_5 d_mo_passes_204 ?_
        refine V_aload_0 d_mo_passes_206 ?_
        refine V_getR d_mo_passes_207 fl_mo_118 is_mo r_mo_sighted ?_
        refine V_bipush 120 d_mo_passes_210 (by decide) ?_
        refine V_iconst 5 d_mo_passes_212 ?_
        refine V_iload_2 d_mo_passes_213 ?_
        refine V_imul d_mo_passes_214 ?_
        refine V_iadd d_mo_passes_215 ?_
        refine V_iconst 1 d_mo_passes_216 ?_
        refine V_iadd d_mo_passes_217 ?_
        refine V_iload_5 d_mo_passes_218 ?_
        refine V_iadd d_mo_passes_220 ?_
        refine V_iald d_mo_passes_221 is_mo_sighted (by omega) (by omega) ?_
        rw [show (120 : Int) + 5 * s + 1 + 1 = 120 + 5 * s + 2 by omega, q_up_ne (by omega), q_up_ne (by omega), e2]
        refine V_iast d_mo_passes_222 is_mo_ask (by omega) (by omega) ?_
        refine V_iinc_5 d_mo_passes_223 rfl ?_
        refine V_goto 194 d_mo_passes_226 (by decide) ?_
        refine V_iload_5 d_mo_passes_194 ?_
        refine V_iconst 4 d_mo_passes_196 ?_
        refine V_icmp_ge 229 d_mo_passes_197 (by decide) (by omega) (by omega) (fun c197 => by omega) (fun c197 => ?_)
        refine V_aload_0 d_mo_passes_200 ?_
        refine V_getR d_mo_passes_201 fl_mo_139 is_mo r_mo_ask ?_
        refine V_iload_5 d_mo_passes_204 ?_
        refine V_aload_0 d_mo_passes_206 ?_
        refine V_getR d_mo_passes_207 fl_mo_118 is_mo r_mo_sighted ?_
        refine V_bipush 120 d_mo_passes_210 (by decide) ?_
        refine V_iconst 5 d_mo_passes_212 ?_
        refine V_iload_2 d_mo_passes_213 ?_
        refine V_imul d_mo_passes_214 ?_
        refine V_iadd d_mo_passes_215 ?_
        refine V_iconst 1 d_mo_passes_216 ?_
        refine V_iadd d_mo_passes_217 ?_
        refine V_iload_5 d_mo_passes_218 ?_
        refine V_iadd d_mo_passes_220 ?_
        refine V_iald d_mo_passes_221 is_mo_sighted (by omega) (by omega) ?_
        rw [show (120 : Int) + 5 * s + 1 + (1 + 1) = 120 + 5 * s + 3 by omega, q_up_ne (by omega), q_up_ne (by omega), q_up_ne (by omega), e3, show (1 : Int) + 1 = 2 by decide]
        refine V_iast d_mo_passes_222 is_mo_ask (by omega) (by omega) ?_
        refine V_iinc_5 d_mo_passes_223 rfl ?_
        refine V_goto 194 d_mo_passes_226 (by decide) ?_
        refine V_iload_5 d_mo_passes_194 ?_
        refine V_iconst 4 d_mo_passes_196 ?_
        refine V_icmp_ge 229 d_mo_passes_197 (by decide) (by omega) (by omega) (fun c197 => by omega) (fun c197 => ?_)
        refine V_aload_0 d_mo_passes_200 ?_
        refine V_getR d_mo_passes_201 fl_mo_139 is_mo r_mo_ask ?_
        refine V_iload_5 d_mo_passes_204 ?_
        refine V_aload_0 d_mo_passes_206 ?_
        refine V_getR d_mo_passes_207 fl_mo_118 is_mo r_mo_sighted ?_
        refine V_bipush 120 d_mo_passes_210 (by decide) ?_
        refine V_iconst 5 d_mo_passes_212 ?_
        refine V_iload_2 d_mo_passes_213 ?_
        refine V_imul d_mo_passes_214 ?_
        refine V_iadd d_mo_passes_215 ?_
        refine V_iconst 1 d_mo_passes_216 ?_
        refine V_iadd d_mo_passes_217 ?_
        refine V_iload_5 d_mo_passes_218 ?_
        refine V_iadd d_mo_passes_220 ?_
        refine V_iald d_mo_passes_221 is_mo_sighted (by omega) (by omega) ?_
        rw [show (120 : Int) + 5 * s + 1 + (2 + 1) = 120 + 5 * s + 4 by omega, q_up_ne (by omega), q_up_ne (by omega), q_up_ne (by omega), q_up_ne (by omega), e4, show (2 : Int) + 1 = 3 by decide]
        refine V_iast d_mo_passes_222 is_mo_ask (by omega) (by omega) ?_
        refine V_iinc_5 d_mo_passes_223 rfl ?_
        refine V_goto 194 d_mo_passes_226 (by decide) ?_
        refine V_iload_5 d_mo_passes_194 ?_
        refine V_iconst 4 d_mo_passes_196 ?_
        refine V_icmp_ge 229 d_mo_passes_197 (by decide) (by omega) (by omega) (fun c197 => ?_) (fun c197 => by omega)
        refine V_aload_0 d_mo_passes_229 ?_
        refine V_getR d_mo_passes_230 fl_mo_139 is_mo r_mo_ask ?_
        refine V_iconst 4 d_mo_passes_233 ?_
        refine V_iload_4 d_mo_passes_234 ?_
        refine V_iast d_mo_passes_236 is_mo_ask (by omega) (by omega) ?_
        refine V_aload_0 d_mo_passes_237 ?_
        refine V_getR d_mo_passes_238 fl_mo_139 is_mo r_mo_ask ?_
        refine V_iconst 5 d_mo_passes_241 ?_
        refine V_iload_3 d_mo_passes_242 ?_
        refine V_iast d_mo_passes_243 is_mo_ask (by omega) (by omega) ?_
        rw [hGG]
        refine V_aload_0 d_mo_passes_244 ?_
        refine V_getR d_mo_passes_245 fl_mo_145 is_mo r_mo_priceOf ?_
        refine V_bipush 24 d_mo_passes_248 (by decide) ?_
        refine V_iload_1 d_mo_passes_250 ?_
        refine V_imul d_mo_passes_251 ?_
        refine V_iload_2 d_mo_passes_252 ?_
        refine V_iadd d_mo_passes_253 ?_
        refine V_aload_0 d_mo_passes_254 ?_
        refine V_aload_0 d_mo_passes_255 ?_
        refine V_getR d_mo_passes_256 fl_mo_112 is_mo r_mo_fees ?_
        refine V_iconst 5 d_mo_passes_259 ?_
        refine V_iload_1 d_mo_passes_260 ?_
        refine V_iadd d_mo_passes_261 ?_
        refine V_iald d_mo_passes_262 is_mo_fees (by omega) (by omega) ?_
        rw [feG]
        refine V_cvI1 d_mo_passes_263 ml_mo_428 mv_mo_priceNow (by decide) (Nat.le_of_ble_eq_true rfl) is_mo (ok_priceNow (mSF G pk) (mSrF G pk) hY hX hl ⟨i0, i1⟩ (by omega) ka) ?_
        rintro x F2 ⟨rfl, k2⟩
        refine V_iast d_mo_passes_266 is_mo_priceOf (by omega) (by omega) ?_
        refine V_iinc_2 d_mo_passes_267 rfl ?_
        refine V_goto 12 d_mo_passes_270 (by decide) ?_
        refine ih i _ _ _ _ _ ((pk.tr k2.zz).up (by decide)) i0 i1 (by omega) (by omega) (fun a b a0 a1 b0' b1' ho => ?_) K
        by_cases e : a = i ∧ b = s
        · rw [e.1, e.2, q_up_ne (by omega), q_up_eq, k2 _ _ (by omega) (by omega)]; exact ⟨g3, rfl⟩
        · rw [q_up_ne (by omega), q_up_ne (by omega), k2 _ _ (by omega) (by omega), k2 _ _ (by omega) (by omega), g2 a b e b0' (by omega), g4]; exact hP a b a0 a1 b0' b1' (by omega)
      refine V_iload_2 d_mo_passes_12 ?_
      refine V_aload_0 d_mo_passes_13 ?_
      refine V_cvI0 d_mo_passes_14 ml_mo_328 mv_mo_seenMany (by decide) (Nat.le_of_ble_eq_true rfl) is_mo (ok_seenManyS (mSF F hk)) ?_
      rintro _ f2 ⟨rfl, e2⟩
      rw [e2]; clear e2 f2
      refine V_icmp_ge 273 d_mo_passes_17 (by decide) (by omega) (by omega) (fun c17 => by omega) (fun c17 => ?_)
      refine V_sipush 1000 d_mo_passes_20 (by decide) ?_
      refine V_istore_3 d_mo_passes_23 rfl ?_
      refine V_iconst 0 d_mo_passes_24 ?_
      refine V_istore_4 d_mo_passes_25 rfl ?_
      refine V_iconst 0 d_mo_passes_27 ?_
      refine V_istore_5 d_mo_passes_28 rfl ?_
      exact inner (S 1 0).toNat i s _ _ _ F hk i0 i1 s0 (by omega) (by decide) (by omega) (by decide) rfl rfl K165
  have outer : ∀ (m : Nat) (i : Int) (F : q_F) (t u v w : Value), zK f F → 0 ≤ i → i + m = S 1 2 → (∀ a b, 0 ≤ a → a < S 1 2 → 0 ≤ b → b < S 1 4 → a < i → F 262 (24 * a + b) = pss S a b ∧ F 263 (24 * a + b) = prc S L a b) → V D C m_mo_passes 2 [vr D 219, vi i, t, u, v, w] [] (Zg g h) F := by
    intro m
    induction m with
    | zero =>
      intro i F t u v w hk i0 im hP
      refine V_iload_1 d_mo_passes_2 ?_
      refine V_aload_0 d_mo_passes_3 ?_
      refine V_cvI0 d_mo_passes_4 ml_mo_419 mv_mo_shadeMany (by decide) (Nat.le_of_ble_eq_true rfl) is_mo (ok_shadeManyS (mSF F hk)) ?_
      rintro _ f2 ⟨rfl, e2⟩
      rw [e2]; clear e2 f2
      refine V_icmp_ge 279 d_mo_passes_7 (by decide) (by omega) (by omega) (fun c7 => ?_) (fun c7 => by omega)
      refine V_return d_mo_passes_279 (hR _ ?_)
      exact ⟨hk, fun a b a0 a1 b0' b1' => hP a b a0 a1 b0' b1' (by omega)⟩
    | succ m ih =>
      intro i F t u v w hk i0 im hP
      refine V_iload_1 d_mo_passes_2 ?_
      refine V_aload_0 d_mo_passes_3 ?_
      refine V_cvI0 d_mo_passes_4 ml_mo_419 mv_mo_shadeMany (by decide) (Nat.le_of_ble_eq_true rfl) is_mo (ok_shadeManyS (mSF F hk)) ?_
      rintro _ f2 ⟨rfl, e2⟩
      rw [e2]; clear e2 f2
      refine V_icmp_ge 279 d_mo_passes_7 (by decide) (by omega) (by omega) (fun c7 => by omega) (fun c7 => ?_)
      refine V_iconst 0 d_mo_passes_10 ?_
      refine V_istore_2 d_mo_passes_11 rfl ?_
      exact mid12 (S 1 4).toNat i _ F _ _ _ hk i0 (by omega) (by decide) (by omega) (fun a b a0 a1 b0' b1' ho => hP a b a0 a1 b0' b1' (by omega)) (fun F' t u v w h1 h2 => ih (i + 1) F' t u v w h1 (by omega) (by omega) h2)
  refine V_iconst 0 d_mo_passes_0 ?_
  refine V_istore_1 d_mo_passes_1 rfl ?_
  exact outer (S 1 2).toNat _ f _ _ _ _ (zK.refl f) (by decide) (by omega) (fun a b a0 a1 b0' b1' ho => by omega)
end PAS
