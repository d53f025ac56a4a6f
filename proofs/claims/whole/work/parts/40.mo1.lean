/-! the reference: what is asked of it -/
section MO1
variable {D : q_D} {f : q_F} {A : q_As} {g h : Int}
theorem Mg.sg (hG : Mg f A) (hW : Wg A) {s : Int} (h0 : 0 ≤ s) (h1 : s < A 0 4 0) : (f 254 (120 + 5 * s) = A 7 s 0 ∧ f 254 (120 + 5 * s + 1) = A 7 s 1 ∧ f 254 (120 + 5 * s + 2) = A 7 s 2 ∧ f 254 (120 + 5 * s + 3) = A 7 s 3 ∧ f 254 (120 + 5 * s + 4) = A 7 s 4) ∧
    (0 ≤ A 7 s 0 ∧ A 7 s 0 < A 0 1 0) ∧ (0 ≤ A 7 s 1 ∧ A 7 s 1 < A 0 3 0) ∧ (0 ≤ A 7 s 2 ∧ A 7 s 2 ≤ 99) ∧ (0 ≤ A 7 s 3 ∧ A 7 s 3 ≤ 100) ∧ (0 ≤ A 7 s 4 ∧ A 7 s 4 ≤ 1) := by
  obtain ⟨-, -, -, -, -, -, -, -, hs, -⟩ := hG
  have e0 := hs s 0 h0 h1 (by decide) (by decide)
  rw [Int.add_zero] at e0
  exact ⟨⟨e0, hs s 1 h0 h1 (by decide) (by decide), hs s 2 h0 h1 (by decide) (by decide), hs s 3 h0 h1 (by decide) (by decide), hs s 4 h0 h1 (by decide) (by decide)⟩, hW.2.1 s h0 h1⟩
theorem Mg.far (hG : Mg f A) {a b : Int} (h0 : 0 ≤ a ∧ a < A 0 3 0) (h1 : 0 ≤ b ∧ b < A 0 3 0) : f 253 (64 + 8 * a + b) = A 6 a b := hG.2.2.2.2.2.2.2.1 a b h0.1 h0.2 h1.1 h1.2
theorem Mg.pp (hG : Mg f A) (hW : Wg A) {k s : Int} (h0 : 0 ≤ k ∧ k < A 0 2 0) (h1 : 0 ≤ s ∧ s < A 0 4 0) : (f 262 (24 * k + s) = A 8 k s ∧ f 263 (24 * k + s) = A 9 k s) ∧ (0 ≤ A 8 k s ∧ A 8 k s ≤ 1000) ∧ (0 ≤ A 9 k s ∧ A 9 k s ≤ 999) := ⟨hG.2.2.2.2.2.2.2.2.2.1 k s h0.1 h0.2 h1.1 h1.2, hW.2.2.2.1 k s h0.1 h0.2 h1.1 h1.2⟩
theorem Mg.fee (hG : Mg f A) (hW : Wg A) {k : Int} (h0 : 0 ≤ k ∧ k < A 0 2 0) : f 252 (5 + k) = A 10 k 0 ∧ 1 ≤ A 10 k 0 ∧ A 10 k 0 ≤ 99 := ⟨hG.2.2.2.2.2.2.1 k h0.1 h0.2, hW.2.2.2.2.1 k h0.1 h0.2⟩
theorem Mg.mt (hG : Mg f A) {s : Int} (h0 : 0 ≤ s) (h1 : s < A 0 4 0) : f 265 s = mB (fun t => decide (t < A 0 4 0) && can A s t) := hG.2.2.2.2.2.2.2.2.2.2 s h0 h1
theorem Mh.at (hH : Mh f A) (hWh : Wh A) {s : Int} (h0 : 0 ≤ s) (h1 : s < A 0 4 0) : f 264 s = A 11 s 0 ∧ -1 ≤ A 11 s 0 ∧ A 11 s 0 < A 0 2 0 := ⟨hH.1 s h0 h1, hWh.1 s h0 h1⟩
theorem ok_isIn {x y w : Int} (hx : -9223372036854775808 ≤ x ∧ x < 9223372036854775808) (hy : -9223372036854775808 ≤ y ∧ y < 9223372036854775808) (hw : -9223372036854775808 ≤ w ∧ w < 9223372036854775808) : OkI D m_mo_isIn [vl x, vl y, vl w] (Zg g h) f (fun r f' => ((r = 1 ∧ (y ≤ x ∧ x ≤ w)) ∨ (r = 0 ∧ ¬ (y ≤ x ∧ x ≤ w))) ∧ f' = f) := by
  refine OkB_of (L0 := [vl x, vu, vl y, vu, vl w, vu]) mi_mo_isIn rfl rfl (Nat.le_of_ble_eq_true rfl) (fun C hR => ?_)
  refine V_lload_0 d_mo_isIn_0 ?_
  refine V_lload_2 d_mo_isIn_1 ?_
  refine V_lcmp_lt 17 d_mo_isIn_2 d_mo_isIn_3 (by decide) (by omega) (by omega) (fun c2 => ?_) (fun c2 => ?_)
  · skip
    refine V_iconst 0 d_mo_isIn_17 ?_
    refine V_ireturn d_mo_isIn_18 (hR _ _ (by decide) ?_)
    exact ⟨by omega, rfl⟩
  · skip
    refine V_lload_0 d_mo_isIn_6 ?_
    refine V_lload_4 d_mo_isIn_7 ?_
    refine V_lcmp_gt 17 d_mo_isIn_9 d_mo_isIn_10 (by decide) (by omega) (by omega) (fun c9 => ?_) (fun c9 => ?_)
    · skip
      refine V_iconst 0 d_mo_isIn_17 ?_
      refine V_ireturn d_mo_isIn_18 (hR _ _ (by decide) ?_)
      exact ⟨by omega, rfl⟩
    · skip
      refine V_iconst 1 d_mo_isIn_13 ?_
      refine V_goto 18 d_mo_isIn_14 (by decide) ?_
      refine V_ireturn d_mo_isIn_18 (hR _ _ (by decide) ?_)
      exact ⟨by omega, rfl⟩
theorem ok_seenMany (hG : Mg f A) : OkI D m_mo_seenMany [vr D 219] (Zg g h) f (fun r f' => r = A 0 4 0 ∧ f' = f) := by
  refine OkI_of (L0 := [vr D 219]) mi_mo_seenMany rfl rfl (Nat.le_of_ble_eq_true rfl) (fun C hR => ?_)
  refine V_aload_0 d_mo_seenMany_0 ?_
  refine V_getR d_mo_seenMany_1 fl_mo_93 is_mo r_mo_many ?_
  refine V_bipush 12 d_mo_seenMany_4 (by decide) ?_
  refine V_iald d_mo_seenMany_6 is_mo_many (by omega) (by omega) ?_
  refine V_ireturn d_mo_seenMany_7 (hR _ _ ?_)
  exact ⟨hG.1.2.2.2.2.1, rfl⟩
theorem ok_persons (hG : Mg f A) : OkI D m_mo_persons [vr D 219] (Zg g h) f (fun r f' => r = A 0 1 0 ∧ f' = f) := by
  refine OkI_of (L0 := [vr D 219]) mi_mo_persons rfl rfl (Nat.le_of_ble_eq_true rfl) (fun C hR => ?_)
  refine V_aload_0 d_mo_persons_0 ?_
  refine V_getR d_mo_persons_1 fl_mo_93 is_mo r_mo_many ?_
  refine V_bipush 8 d_mo_persons_4 (by decide) ?_
  refine V_iald d_mo_persons_6 is_mo_many (by omega) (by omega) ?_
  refine V_ireturn d_mo_persons_7 (hR _ _ ?_)
  exact ⟨hG.1.2.1, rfl⟩
theorem ok_shadeMany (hG : Mg f A) : OkI D m_mo_shadeMany [vr D 219] (Zg g h) f (fun r f' => r = A 0 2 0 ∧ f' = f) := by
  refine OkI_of (L0 := [vr D 219]) mi_mo_shadeMany rfl rfl (Nat.le_of_ble_eq_true rfl) (fun C hR => ?_)
  refine V_aload_0 d_mo_shadeMany_0 ?_
  refine V_getR d_mo_shadeMany_1 fl_mo_93 is_mo r_mo_many ?_
  refine V_bipush 9 d_mo_shadeMany_4 (by decide) ?_
  refine V_iald d_mo_shadeMany_6 is_mo_many (by omega) (by omega) ?_
  refine V_ireturn d_mo_shadeMany_7 (hR _ _ ?_)
  exact ⟨hG.1.2.2.1, rfl⟩
theorem ok_personOf (hG : Mg f A) (hW : Wg A) {s : Int} (h0 : 0 ≤ s) (h1 : s < A 0 4 0) : OkI D m_mo_personOf [vr D 219, vi s] (Zg g h) f (fun r f' => r = A 7 s 0 ∧ f' = f) := by
  have hn := hW.1
  refine OkI_of (L0 := [vr D 219, vi s]) mi_mo_personOf rfl rfl (Nat.le_of_ble_eq_true rfl) (fun C hR => ?_)
  refine V_aload_0 d_mo_personOf_0 ?_
  refine V_getR d_mo_personOf_1 fl_mo_118 is_mo r_mo_sighted ?_
  refine V_bipush 120 d_mo_personOf_4 (by decide) ?_
  refine V_iconst 5 d_mo_personOf_6 ?_
  refine V_iload_1 d_mo_personOf_7 ?_
  refine V_imul d_mo_personOf_8 ?_
  refine V_iadd d_mo_personOf_9 ?_
  refine V_iald d_mo_personOf_10 is_mo_sighted (by omega) (by omega) ?_
  refine V_ireturn d_mo_personOf_11 (hR _ _ ?_)
  exact ⟨(hG.sg hW h0 h1).1.1, rfl⟩
theorem ok_placeOf (hG : Mg f A) (hW : Wg A) {s : Int} (h0 : 0 ≤ s) (h1 : s < A 0 4 0) : OkI D m_mo_placeOf [vr D 219, vi s] (Zg g h) f (fun r f' => r = A 7 s 1 ∧ f' = f) := by
  have hn := hW.1
  refine OkI_of (L0 := [vr D 219, vi s]) mi_mo_placeOf rfl rfl (Nat.le_of_ble_eq_true rfl) (fun C hR => ?_)
  refine V_aload_0 d_mo_placeOf_0 ?_
  refine V_getR d_mo_placeOf_1 fl_mo_118 is_mo r_mo_sighted ?_
  refine V_bipush 120 d_mo_placeOf_4 (by decide) ?_
  refine V_iconst 5 d_mo_placeOf_6 ?_
  refine V_iload_1 d_mo_placeOf_7 ?_
  refine V_imul d_mo_placeOf_8 ?_
  refine V_iadd d_mo_placeOf_9 ?_
  refine V_iconst 1 d_mo_placeOf_10 ?_
  refine V_iadd d_mo_placeOf_11 ?_
  refine V_iald d_mo_placeOf_12 is_mo_sighted (by omega) (by omega) ?_
  refine V_ireturn d_mo_placeOf_13 (hR _ _ ?_)
  exact ⟨(hG.sg hW h0 h1).1.2.1, rfl⟩
theorem ok_hourOf (hG : Mg f A) (hW : Wg A) {s : Int} (h0 : 0 ≤ s) (h1 : s < A 0 4 0) : OkI D m_mo_hourOf [vr D 219, vi s] (Zg g h) f (fun r f' => r = A 7 s 2 ∧ f' = f) := by
  have hn := hW.1
  refine OkI_of (L0 := [vr D 219, vi s]) mi_mo_hourOf rfl rfl (Nat.le_of_ble_eq_true rfl) (fun C hR => ?_)
  refine V_aload_0 d_mo_hourOf_0 ?_
  refine V_getR d_mo_hourOf_1 fl_mo_118 is_mo r_mo_sighted ?_
  refine V_bipush 120 d_mo_hourOf_4 (by decide) ?_
  refine V_iconst 5 d_mo_hourOf_6 ?_
  refine V_iload_1 d_mo_hourOf_7 ?_
  refine V_imul d_mo_hourOf_8 ?_
  refine V_iadd d_mo_hourOf_9 ?_
  refine V_iconst 2 d_mo_hourOf_10 ?_
  refine V_iadd d_mo_hourOf_11 ?_
  refine V_iald d_mo_hourOf_12 is_mo_sighted (by omega) (by omega) ?_
  refine V_ireturn d_mo_hourOf_13 (hR _ _ ?_)
  exact ⟨(hG.sg hW h0 h1).1.2.2.1, rfl⟩
theorem ok_areFarEnough (hG : Mg f A) (hW : Wg A) {a b t u : Int} (ha : 0 ≤ a ∧ a < A 0 3 0) (hb : 0 ≤ b ∧ b < A 0 3 0) (ht : 0 ≤ t ∧ t ≤ 99) (hu : 0 ≤ u ∧ u ≤ 99) : OkI D m_mo_areFarEnough [vr D 219, vi a, vi t, vi b, vi u] (Zg g h) f (fun r f' => ((r = 1 ∧ A 6 a b ≤ iabs (t - u)) ∨ (r = 0 ∧ ¬ A 6 a b ≤ iabs (t - u))) ∧ f' = f) := by
  have hn := hW.1
  have e := hG.far ha hb
  have e2 := hW.2.2.1 a b ha.1 ha.2 hb.1 hb.2
  have e3 : iabs (t - u) = t - u ∧ u ≤ t ∨ iabs (t - u) = u - t ∧ t < u := by unfold iabs; split <;> omega
  refine OkB_of (L0 := [vr D 219, vi a, vi t, vi b, vi u, vu]) mi_mo_areFarEnough rfl rfl (Nat.le_of_ble_eq_true rfl) (fun C hR => ?_)
  refine V_iload_2 d_mo_areFarEnough_0 ?_
  refine V_iload_4 d_mo_areFarEnough_1 ?_
  refine V_icmp_ge 13 d_mo_areFarEnough_3 (by decide) (by omega) (by omega) (fun c3 => ?_) (fun c3 => ?_)
  · skip
    refine V_iload_2 d_mo_areFarEnough_13 ?_
    refine V_iload_4 d_mo_areFarEnough_14 ?_
    refine V_isub d_mo_areFarEnough_16 ?_
    refine V_istore_5 d_mo_areFarEnough_17 rfl ?_
    refine V_aload_0 d_mo_areFarEnough_19 ?_
    refine V_getR d_mo_areFarEnough_20 fl_mo_115 is_mo r_mo_roads ?_
    refine V_bipush 64 d_mo_areFarEnough_23 (by decide) ?_
    refine V_bipush 8 d_mo_areFarEnough_25 (by decide) ?_
    refine V_iload_1 d_mo_areFarEnough_27 ?_
    refine V_imul d_mo_areFarEnough_28 ?_
    refine V_iadd d_mo_areFarEnough_29 ?_
    refine V_iload_3 d_mo_areFarEnough_30 ?_
    refine V_iadd d_mo_areFarEnough_31 ?_
    refine V_iald d_mo_areFarEnough_32 is_mo_roads (by omega) (by omega) ?_
    refine V_iload_5 d_mo_areFarEnough_33 ?_
    refine V_icmp_gt 42 d_mo_areFarEnough_35 (by decide) (by omega) (by omega) (fun c35 => ?_) (fun c35 => ?_)
    · skip
      refine V_iconst 0 d_mo_areFarEnough_42 ?_
      refine V_ireturn d_mo_areFarEnough_43 (hR _ _ (by decide) ?_)
      exact ⟨by omega, rfl⟩
    · skip
      refine V_iconst 1 d_mo_areFarEnough_38 ?_
      refine V_goto 43 d_mo_areFarEnough_39 (by decide) ?_
      refine V_ireturn d_mo_areFarEnough_43 (hR _ _ (by decide) ?_)
      exact ⟨by omega, rfl⟩
  · skip
    refine V_iload_4 d_mo_areFarEnough_6 ?_
    refine V_iload_2 d_mo_areFarEnough_8 ?_
    refine V_isub d_mo_areFarEnough_9 ?_
    refine V_goto 17 d_mo_areFarEnough_10 (by decide) ?_
    refine V_istore_5 d_mo_areFarEnough_17 rfl ?_
    refine V_aload_0 d_mo_areFarEnough_19 ?_
    refine V_getR d_mo_areFarEnough_20 fl_mo_115 is_mo r_mo_roads ?_
    refine V_bipush 64 d_mo_areFarEnough_23 (by decide) ?_
    refine V_bipush 8 d_mo_areFarEnough_25 (by decide) ?_
    refine V_iload_1 d_mo_areFarEnough_27 ?_
    refine V_imul d_mo_areFarEnough_28 ?_
    refine V_iadd d_mo_areFarEnough_29 ?_
    refine V_iload_3 d_mo_areFarEnough_30 ?_
    refine V_iadd d_mo_areFarEnough_31 ?_
    refine V_iald d_mo_areFarEnough_32 is_mo_roads (by omega) (by omega) ?_
    refine V_iload_5 d_mo_areFarEnough_33 ?_
    refine V_icmp_gt 42 d_mo_areFarEnough_35 (by decide) (by omega) (by omega) (fun c35 => ?_) (fun c35 => ?_)
    · skip
      refine V_iconst 0 d_mo_areFarEnough_42 ?_
      refine V_ireturn d_mo_areFarEnough_43 (hR _ _ (by decide) ?_)
      exact ⟨by omega, rfl⟩
    · skip
      refine V_iconst 1 d_mo_areFarEnough_38 ?_
      refine V_goto 43 d_mo_areFarEnough_39 (by decide) ?_
      refine V_ireturn d_mo_areFarEnough_43 (hR _ _ (by decide) ?_)
      exact ⟨by omega, rfl⟩
theorem ok_isSeen (hG : Mg f A) (hW : Wg A) {s : Int} (hs : -2147483648 ≤ s ∧ s < 2147483648) : OkI D m_mo_isSeen [vr D 219, vi s] (Zg g h) f (fun x f' => ((x = 1 ∧ (0 ≤ s ∧ s < A 0 4 0)) ∨ (x = 0 ∧ ¬ (0 ≤ s ∧ s < A 0 4 0))) ∧ f' = f) := by
  have hn := hW.1
  refine OkB_of (L0 := [vr D 219, vi s]) mi_mo_isSeen rfl rfl (Nat.le_of_ble_eq_true rfl) (fun C hR => ?_)
  refine V_iload_1 d_mo_isSeen_0 ?_
  refine V_i2l d_mo_isSeen_1 (by omega) ?_
  refine V_lconst0 d_mo_isSeen_2 ?_
  refine V_aload_0 d_mo_isSeen_3 ?_
  refine V_cvI0 d_mo_isSeen_4 ml_mo_328 mv_mo_seenMany (by decide) (Nat.le_of_ble_eq_true rfl) is_mo (ok_seenMany hG) ?_
  rintro _ f2 ⟨rfl, e2⟩
  rw [e2]; clear e2 f2
  refine V_iconst 1 d_mo_isSeen_7 ?_
  refine V_isub d_mo_isSeen_8 ?_
  refine V_i2l d_mo_isSeen_9 (by omega) ?_
  refine V_csI3 d_mo_isSeen_10 ml_mo_225 ms_mo_isIn (by decide) (Nat.le_of_ble_eq_true rfl) (ok_isIn (by omega) (by omega) (by omega)) ?_
  rintro x10 f2 ⟨hx10, e2⟩
  rw [e2]; clear e2 f2
  refine V_ireturn d_mo_isSeen_13 (hR _ _ (by omega) ?_)
  exact ⟨by omega, rfl⟩
theorem okm_isShade (hG : Mg f A) (hW : Wg A) {s : Int} (hs : -2147483648 ≤ s ∧ s < 2147483648) : OkI D m_mo_isShade [vr D 219, vi s] (Zg g h) f (fun x f' => ((x = 1 ∧ (0 ≤ s ∧ s < A 0 2 0)) ∨ (x = 0 ∧ ¬ (0 ≤ s ∧ s < A 0 2 0))) ∧ f' = f) := by
  have hn := hW.1
  refine OkB_of (L0 := [vr D 219, vi s]) mi_mo_isShade rfl rfl (Nat.le_of_ble_eq_true rfl) (fun C hR => ?_)
  refine V_iload_1 d_mo_isShade_0 ?_
  refine V_i2l d_mo_isShade_1 (by omega) ?_
  refine V_lconst0 d_mo_isShade_2 ?_
  refine V_aload_0 d_mo_isShade_3 ?_
  refine V_cvI0 d_mo_isShade_4 ml_mo_419 mv_mo_shadeMany (by decide) (Nat.le_of_ble_eq_true rfl) is_mo (ok_shadeMany hG) ?_
  rintro _ f2 ⟨rfl, e2⟩
  rw [e2]; clear e2 f2
  refine V_iconst 1 d_mo_isShade_7 ?_
  refine V_isub d_mo_isShade_8 ?_
  refine V_i2l d_mo_isShade_9 (by omega) ?_
  refine V_csI3 d_mo_isShade_10 ml_mo_225 ms_mo_isIn (by decide) (Nat.le_of_ble_eq_true rfl) (ok_isIn (by omega) (by omega) (by omega)) ?_
  rintro x10 f2 ⟨hx10, e2⟩
  rw [e2]; clear e2 f2
  refine V_ireturn d_mo_isShade_13 (hR _ _ (by omega) ?_)
  exact ⟨by omega, rfl⟩
theorem ok_isPerson (hG : Mg f A) (hW : Wg A) {s : Int} (hs : -2147483648 ≤ s ∧ s < 2147483648) : OkI D m_mo_isPerson [vr D 219, vi s] (Zg g h) f (fun x f' => ((x = 1 ∧ (0 ≤ s ∧ s < A 0 1 0)) ∨ (x = 0 ∧ ¬ (0 ≤ s ∧ s < A 0 1 0))) ∧ f' = f) := by
  have hn := hW.1
  refine OkB_of (L0 := [vr D 219, vi s]) mi_mo_isPerson rfl rfl (Nat.le_of_ble_eq_true rfl) (fun C hR => ?_)
  refine V_iload_1 d_mo_isPerson_0 ?_
  refine V_i2l d_mo_isPerson_1 (by omega) ?_
  refine V_lconst0 d_mo_isPerson_2 ?_
  refine V_aload_0 d_mo_isPerson_3 ?_
  refine V_cvI0 d_mo_isPerson_4 ml_mo_422 mv_mo_persons (by decide) (Nat.le_of_ble_eq_true rfl) is_mo (ok_persons hG) ?_
  rintro _ f2 ⟨rfl, e2⟩
  rw [e2]; clear e2 f2
  refine V_iconst 1 d_mo_isPerson_7 ?_
  refine V_isub d_mo_isPerson_8 ?_
  refine V_i2l d_mo_isPerson_9 (by omega) ?_
  refine V_csI3 d_mo_isPerson_10 ml_mo_225 ms_mo_isIn (by decide) (Nat.le_of_ble_eq_true rfl) (ok_isIn (by omega) (by omega) (by omega)) ?_
  rintro x10 f2 ⟨hx10, e2⟩
  rw [e2]; clear e2 f2
  refine V_ireturn d_mo_isPerson_13 (hR _ _ (by omega) ?_)
  exact ⟨by omega, rfl⟩
theorem ok_isPlaceHere (hG : Mg f A) (hW : Wg A) {s : Int} (hs : -2147483648 ≤ s ∧ s < 2147483648) : OkI D m_mo_isPlaceHere [vr D 219, vi s] (Zg g h) f (fun x f' => ((x = 1 ∧ (0 ≤ s ∧ s < A 0 3 0)) ∨ (x = 0 ∧ ¬ (0 ≤ s ∧ s < A 0 3 0))) ∧ f' = f) := by
  have hn := hW.1
  have e := hG.1.2.2.2.1
  refine OkB_of (L0 := [vr D 219, vi s]) mi_mo_isPlaceHere rfl rfl (Nat.le_of_ble_eq_true rfl) (fun C hR => ?_)
  refine V_iload_1 d_mo_isPlaceHere_0 ?_
  refine V_i2l d_mo_isPlaceHere_1 (by omega) ?_
  refine V_lconst0 d_mo_isPlaceHere_2 ?_
  refine V_aload_0 d_mo_isPlaceHere_3 ?_
  refine V_getR d_mo_isPlaceHere_4 fl_mo_93 is_mo r_mo_many ?_
  refine V_bipush 10 d_mo_isPlaceHere_7 (by decide) ?_
  refine V_iald d_mo_isPlaceHere_9 is_mo_many (by omega) (by omega) ?_
  refine V_iconst 1 d_mo_isPlaceHere_10 ?_
  refine V_isub d_mo_isPlaceHere_11 ?_
  refine V_i2l d_mo_isPlaceHere_12 (by omega) ?_
  refine V_csI3 d_mo_isPlaceHere_13 ml_mo_225 ms_mo_isIn (by decide) (Nat.le_of_ble_eq_true rfl) (ok_isIn (by omega) (by omega) (by omega)) ?_
  rintro x13 f2 ⟨hx13, e2⟩
  rw [e2]; clear e2 f2
  refine V_ireturn d_mo_isPlaceHere_16 (hR _ _ (by omega) ?_)
  exact ⟨by omega, rfl⟩
theorem ok_hiredBy (hG : Mg f A) (hH : Mh f A) (hW : Wg A) (hWh : Wh A) {sh : Int} (hsh : -2147483648 ≤ sh ∧ sh < 2147483648) : OkI D m_mo_hiredBy [vr D 219, vi sh] (Zg g h) f (fun x f' => x = mB (held A sh) ∧ f' = f) := by
  have hn := hW.1
  refine OkI_of (L0 := [vr D 219, vi sh, vu, vu]) mi_mo_hiredBy rfl rfl (Nat.le_of_ble_eq_true rfl) (fun C hR => ?_)
  have loop : ∀ (m : Nat) (i b : Int), (A 0 4 0 - i).toNat < m → 0 ≤ i → i ≤ A 0 4 0 → b = mB (fun j => decide (j < i) && decide (A 11 j 0 = sh)) → V D C m_mo_hiredBy 4 [vr D 219, vi sh, vi b, vi i] [] (Zg g h) f := by
    intro m
    induction m with
    | zero => intro i b hm; omega
    | succ m ih =>
      intro i b hm h0 h1 hb
      refine V_iload_3 d_mo_hiredBy_4 ?_
      refine V_aload_0 d_mo_hiredBy_5 ?_
      refine V_cvI0 d_mo_hiredBy_6 ml_mo_328 mv_mo_seenMany (by decide) (Nat.le_of_ble_eq_true rfl) is_mo (ok_seenMany hG) ?_
      rintro _ f2 ⟨rfl, e2⟩
      rw [e2]; clear e2 f2
      refine V_icmp_ge 34 d_mo_hiredBy_9 (by decide) (by omega) (by omega) (fun c9 => ?_) (fun c9 => ?_)
      · skip
        refine V_iload_2 d_mo_hiredBy_34 ?_
        refine V_ireturn d_mo_hiredBy_35 (hR _ _ ⟨?_, rfl⟩)
        rw [hb, show i = A 0 4 0 by omega]; rfl
      · skip
        obtain ⟨e0, b0, b1⟩ := hH.at hWh h0 (by omega)
        refine V_aload_0 d_mo_hiredBy_12 ?_
        refine V_getR d_mo_hiredBy_13 fl_mo_148 is_mo r_mo_hired ?_
        refine V_iload_3 d_mo_hiredBy_16 ?_
        refine V_iald d_mo_hiredBy_17 is_mo_hired (by omega) (by omega) ?_
        refine V_iload_1 d_mo_hiredBy_18 ?_
        refine V_icmp_ne 28 d_mo_hiredBy_19 (by decide) (by omega) (by omega) (fun c19 => ?_) (fun c19 => ?_)
        · skip
          refine V_iinc_3 d_mo_hiredBy_28 rfl ?_
          refine V_goto 4 d_mo_hiredBy_31 (by decide) ?_
          refine ih _ _ (by omega) (by omega) (by omega) ?_
          rw [mB_step _ (by omega), hb]
          have : decide (A 11 i 0 = sh) = false := by simp only [decide_eq_false_iff_not]; omega
          rw [this]; rfl
        · skip
          refine V_iload_2 d_mo_hiredBy_22 ?_
          refine V_iconst 1 d_mo_hiredBy_23 ?_
          refine V_iload_3 d_mo_hiredBy_24 ?_
          refine V_ishl d_mo_hiredBy_25 ?_
          refine V_ior d_mo_hiredBy_26 ?_
          refine V_istore_2 d_mo_hiredBy_27 rfl ?_
          refine V_iinc_3 d_mo_hiredBy_28 rfl ?_
          refine V_goto 4 d_mo_hiredBy_31 (by decide) ?_
          refine ih _ _ (by omega) (by omega) (by omega) ?_
          rw [mB_step _ (by omega), hb]
          have : decide (A 11 i 0 = sh) = true := by simp only [decide_eq_true_eq]; omega
          rw [this]; rfl
  refine V_iconst 0 d_mo_hiredBy_0 ?_
  refine V_istore_2 d_mo_hiredBy_1 rfl ?_
  refine V_iconst 0 d_mo_hiredBy_2 ?_
  refine V_istore_3 d_mo_hiredBy_3 rfl ?_
  exact loop _ _ _ (Nat.lt_succ_self _) (by decide) (by omega) (mB_lt0 _).symm
theorem ok_ownOf (hG : Mg f A) (hH : Mh f A) (hW : Wg A) (hWh : Wh A) {p : Int} (hp : -2147483648 ≤ p ∧ p < 2147483648) : OkI D m_mo_ownOf [vr D 219, vi p] (Zg g h) f (fun x f' => x = mB (own A p) ∧ f' = f) := by
  have hn := hW.1
  refine OkI_of (L0 := [vr D 219, vi p, vu, vu]) mi_mo_ownOf rfl rfl (Nat.le_of_ble_eq_true rfl) (fun C hR => ?_)
  have loop : ∀ (m : Nat) (i b : Int), (A 0 4 0 - i).toNat < m → 0 ≤ i → i ≤ A 0 4 0 → b = mB (fun j => decide (j < i) && (decide (A 11 j 0 = -1) && decide (A 7 j 0 = p))) → V D C m_mo_ownOf 4 [vr D 219, vi p, vi b, vi i] [] (Zg g h) f := by
    intro m
    induction m with
    | zero => intro i b hm; omega
    | succ m ih =>
      intro i b hm h0 h1 hb
      refine V_iload_3 d_mo_ownOf_4 ?_
      refine V_aload_0 d_mo_ownOf_5 ?_
      refine V_cvI0 d_mo_ownOf_6 ml_mo_328 mv_mo_seenMany (by decide) (Nat.le_of_ble_eq_true rfl) is_mo (ok_seenMany hG) ?_
      rintro _ f2 ⟨rfl, e2⟩
      rw [e2]; clear e2 f2
      refine V_icmp_ge 43 d_mo_ownOf_9 (by decide) (by omega) (by omega) (fun c9 => ?_) (fun c9 => ?_)
      · skip
        refine V_iload_2 d_mo_ownOf_43 ?_
        refine V_ireturn d_mo_ownOf_44 (hR _ _ ⟨?_, rfl⟩)
        rw [hb, show i = A 0 4 0 by omega]
        refine mB_eq (fun j _ _ => ?_)
        unfold own held isOf
        cases decide (j < A 0 4 0) <;> simp
      · skip
        obtain ⟨e0, b0, b1⟩ := hH.at hWh h0 (by omega)
        obtain ⟨-, b2, -⟩ := hG.sg hW h0 (by omega)
        refine V_aload_0 d_mo_ownOf_12 ?_
        refine V_getR d_mo_ownOf_13 fl_mo_148 is_mo r_mo_hired ?_
        refine V_iload_3 d_mo_ownOf_16 ?_
        refine V_iald d_mo_ownOf_17 is_mo_hired (by omega) (by omega) ?_
        refine V_iconst (-1) d_mo_ownOf_18 ?_
        refine V_icmp_ne 37 d_mo_ownOf_19 (by decide) (by omega) (by omega) (fun c19 => ?_) (fun c19 => ?_)
        · skip
          refine V_iinc_3 d_mo_ownOf_37 rfl ?_
          refine V_goto 4 d_mo_ownOf_40 (by decide) ?_
          refine ih _ _ (by omega) (by omega) (by omega) ?_
          rw [mB_step _ (by omega), hb]
          have : (decide (A 11 i 0 = -1) && decide (A 7 i 0 = p)) = false := by rw [decide_eq_false (by omega)]; rfl
          rw [this]; rfl
        · skip
          refine V_aload_0 d_mo_ownOf_22 ?_
          refine V_iload_3 d_mo_ownOf_23 ?_
          refine V_cvI1 d_mo_ownOf_24 ml_mo_425 mv_mo_personOf (by decide) (Nat.le_of_ble_eq_true rfl) is_mo (ok_personOf hG hW h0 (by omega)) ?_
          rintro _ f2 ⟨rfl, e2⟩
          rw [e2]; clear e2 f2
          refine V_iload_1 d_mo_ownOf_27 ?_
          refine V_icmp_ne 37 d_mo_ownOf_28 (by decide) (by omega) (by omega) (fun c28 => ?_) (fun c28 => ?_)
          · skip
            refine V_iinc_3 d_mo_ownOf_37 rfl ?_
            refine V_goto 4 d_mo_ownOf_40 (by decide) ?_
            refine ih _ _ (by omega) (by omega) (by omega) ?_
            rw [mB_step _ (by omega), hb]
            have : (decide (A 11 i 0 = -1) && decide (A 7 i 0 = p)) = false := by rw [decide_eq_false (p := A 7 i 0 = p) (by omega), Bool.and_false]
            rw [this]; rfl
          · skip
            refine V_iload_2 d_mo_ownOf_31 ?_
            refine V_iconst 1 d_mo_ownOf_32 ?_
            refine V_iload_3 d_mo_ownOf_33 ?_
            refine V_ishl d_mo_ownOf_34 ?_
            refine V_ior d_mo_ownOf_35 ?_
            refine V_istore_2 d_mo_ownOf_36 rfl ?_
            refine V_iinc_3 d_mo_ownOf_37 rfl ?_
            refine V_goto 4 d_mo_ownOf_40 (by decide) ?_
            refine ih _ _ (by omega) (by omega) (by omega) ?_
            rw [mB_step _ (by omega), hb]
            have : (decide (A 11 i 0 = -1) && decide (A 7 i 0 = p)) = true := by rw [decide_eq_true (by omega), decide_eq_true (by omega)]; rfl
            rw [this]; rfl
  refine V_iconst 0 d_mo_ownOf_0 ?_
  refine V_istore_2 d_mo_ownOf_1 rfl ?_
  refine V_iconst 0 d_mo_ownOf_2 ?_
  refine V_istore_3 d_mo_ownOf_3 rfl ?_
  exact loop _ _ _ (Nat.lt_succ_self _) (by decide) (by omega) (mB_lt0 _).symm
theorem ok_bits {p : Int → Bool} : OkI D m_mo_bits [vi (mB p)] (Zg g h) f (fun x f' => x = cnt p ∧ f' = f) := by
  refine OkI_of (L0 := [vi (mB p), vu, vu]) mi_mo_bits rfl rfl (Nat.le_of_ble_eq_true rfl) (fun C hR => ?_)
  have loop : ∀ (m : Nat) (n : Int) (q : Int → Bool), (cnt q).toNat < m → 0 ≤ n → n + cnt q = cnt p → V D C m_mo_bits 4 [vi (mB p), vi n, vi (mB q)] [] (Zg g h) f := by
    intro m
    induction m with
    | zero => intro n q hm; omega
    | succ m ih =>
      intro n q hm h0 hc
      have hrq := mB_rg q
      have hcq := cnt_rg q
      have hcp := cnt_rg p
      refine V_iload_2 d_mo_bits_4 ?_
      refine V_if_eq 20 d_mo_bits_5 (by decide) (by omega) (fun c5 => ?_) (fun c5 => ?_)
      · skip
        refine V_iload_1 d_mo_bits_20 ?_
        refine V_ireturn d_mo_bits_21 (hR _ _ ⟨?_, rfl⟩)
        have : cnt q = 0 := cntN_zero 31 0 (fun j a b => (mB_is0 q).mp c5 j a (by omega))
        omega
      · skip
        obtain ⟨s0, s1, s2, s3⟩ := srch_spec (n := 31) (by decide) q
        have hs : srch 31 q < 31 := by
          rcases Int.lt_or_le (srch 31 q) 31 with e | e
          · exact e
          · exact absurd ((mB_is0 q).mpr (fun j a b => s2 j a (by omega))) c5
        have hl := mB_low1 s0 hs (s3 hs) s2
        have hr : cnt (fun j => q j && !decide (j = srch 31 q)) = cnt q - 1 := cntN_rem (s3 hs) 31 0 s0 (by omega)
        have hrr := cnt_rg (fun j => q j && !decide (j = srch 31 q))
        refine V_iinc_1 d_mo_bits_8 rfl ?_
        refine V_iload_2 d_mo_bits_11 ?_
        refine V_iload_2 d_mo_bits_12 ?_
        refine V_iconst 1 d_mo_bits_13 ?_
        refine V_isub d_mo_bits_14 ?_
        refine V_iand d_mo_bits_15 ?_
        refine V_istore_2 d_mo_bits_16 rfl ?_
        refine V_goto 4 d_mo_bits_17 (by decide) ?_
        rw [hl]
        exact ih _ _ (by omega) (by omega) (by omega)
  refine V_iconst 0 d_mo_bits_0 ?_
  refine V_istore_1 d_mo_bits_1 rfl ?_
  refine V_iload_0 d_mo_bits_2 ?_
  refine V_istore_2 d_mo_bits_3 rfl ?_
  exact loop _ _ _ (Nat.lt_succ_self _) (by decide) (by omega)
theorem mo_fault (hS : Mst f A) (hF : Wf A) {w : Int} (hw : -2147483648 ≤ w ∧ w < 2147483648) : OkI D m_mo_fault [vr D 219, vi w] (Zg g h) f (fun x f' => x = S_fault A w ∧ f' = f) := by
  obtain ⟨hG, hH, hT⟩ := hS
  refine OkI_of (L0 := [vr D 219, vi w]) mi_mo_fault rfl rfl (Nat.le_of_ble_eq_true rfl) (fun C hR => ?_)
  refine V_iload_1 d_mo_fault_0 ?_
  refine V_if_ne 11 d_mo_fault_1 (by decide) (by omega) (fun c1 => ?_) (fun c1 => ?_)
  · skip
    refine V_iload_1 d_mo_fault_11 ?_
    refine V_iconst 1 d_mo_fault_12 ?_
    refine V_icmp_ne 23 d_mo_fault_13 (by decide) (by omega) (by omega) (fun c13 => ?_) (fun c13 => ?_)
    · skip
      refine V_iconst (-1) d_mo_fault_23 ?_
      refine V_ireturn d_mo_fault_24 (hR _ _ ?_)
      refine ⟨?_, rfl⟩
      unfold S_fault
      first | (rw [if_pos c1, hT.2.2.1]; done) | (rw [if_neg c1, if_neg c13]; done) | (rw [if_neg c1, if_pos c13, hT.2.2.2.1]; done)
    · skip
      refine V_aload_0 d_mo_fault_16 ?_
      refine V_getI d_mo_fault_17 fl_mo_13 is_mo ?_
      refine V_goto 24 d_mo_fault_20 (by decide) ?_
      refine V_ireturn d_mo_fault_24 (hR _ _ ?_)
      refine ⟨?_, rfl⟩
      unfold S_fault
      first | (rw [if_pos c1, hT.2.2.1]; done) | (rw [if_neg c1, if_neg c13]; done) | (rw [if_neg c1, if_pos c13, hT.2.2.2.1]; done)
  · skip
    refine V_aload_0 d_mo_fault_4 ?_
    refine V_getI d_mo_fault_5 fl_mo_319 is_mo ?_
    refine V_goto 24 d_mo_fault_8 (by decide) ?_
    refine V_ireturn d_mo_fault_24 (hR _ _ ?_)
    refine ⟨?_, rfl⟩
    unfold S_fault
    first | (rw [if_pos c1, hT.2.2.1]; done) | (rw [if_neg c1, if_neg c13]; done) | (rw [if_neg c1, if_pos c13, hT.2.2.2.1]; done)
theorem mo_has (hS : Mst f A) (hF : Wf A) {w : Int} (hw : -2147483648 ≤ w ∧ w < 2147483648) : OkI D m_mo_has [vr D 219, vi w] (Zg g h) f (fun x f' => x = S_has A w ∧ f' = f) := by
  have hn := hF.nn
  obtain ⟨hG, hH, hT⟩ := hS
  obtain ⟨e0, e1, e2, e3, e4, e5⟩ := hG.1
  refine OkI_of (L0 := [vr D 219, vi w]) mi_mo_has rfl rfl (Nat.le_of_ble_eq_true rfl) (fun C hR => ?_)
  refine V_iload_1 d_mo_has_0 ?_
  refine V_tsw 115 d_mo_has_1 (by decide) (by omega) (fun c1 => ?_) (fun c1 => ?_)
  · skip
    refine V_iconst (-1) d_mo_has_115 ?_
    refine V_ireturn d_mo_has_116 (hR _ _ ?_)
    refine ⟨?_, rfl⟩
    unfold S_has; rw [if_neg (by omega), if_neg (by omega), if_neg (by omega)]
  · rcases (show w = 0 ∨ w = 1 ∨ w = 2 ∨ w = 3 ∨ w = 4 ∨ w = 5 ∨ w = 6 ∨ w = 7 ∨ w = 8 by omega) with rfl | rfl | rfl | rfl | rfl | rfl | rfl | rfl | rfl
    · refine V_tsi 52 d_mo_has_1 (by decide) (by decide) rfl (by decide) ?_
      refine V_aload_0 d_mo_has_52 ?_
      refine V_getR d_mo_has_53 fl_mo_93 is_mo r_mo_many ?_
      refine V_bipush 7 d_mo_has_56 (by decide) ?_
      refine V_iald d_mo_has_58 is_mo_many (by omega) (by omega) ?_
      refine V_ireturn d_mo_has_59 (hR _ _ ?_)
      exact ⟨e0, rfl⟩
    · refine V_tsi 60 d_mo_has_1 (by decide) (by decide) rfl (by decide) ?_
      refine V_aload_0 d_mo_has_60 ?_
      refine V_cvI0 d_mo_has_61 ml_mo_422 mv_mo_persons (by decide) (Nat.le_of_ble_eq_true rfl) is_mo (ok_persons hG) ?_
      rintro _ f2 ⟨rfl, e2⟩
      rw [e2]; clear e2 f2
      refine V_ireturn d_mo_has_64 (hR _ _ ?_)
      exact ⟨rfl, rfl⟩
    · refine V_tsi 65 d_mo_has_1 (by decide) (by decide) rfl (by decide) ?_
      refine V_aload_0 d_mo_has_65 ?_
      refine V_cvI0 d_mo_has_66 ml_mo_419 mv_mo_shadeMany (by decide) (Nat.le_of_ble_eq_true rfl) is_mo (ok_shadeMany hG) ?_
      rintro _ f2 ⟨rfl, e2⟩
      rw [e2]; clear e2 f2
      refine V_ireturn d_mo_has_69 (hR _ _ ?_)
      exact ⟨rfl, rfl⟩
    · refine V_tsi 70 d_mo_has_1 (by decide) (by decide) rfl (by decide) ?_
      refine V_aload_0 d_mo_has_70 ?_
      refine V_getR d_mo_has_71 fl_mo_93 is_mo r_mo_many ?_
      refine V_bipush 10 d_mo_has_74 (by decide) ?_
      refine V_iald d_mo_has_76 is_mo_many (by omega) (by omega) ?_
      refine V_ireturn d_mo_has_77 (hR _ _ ?_)
      exact ⟨e3, rfl⟩
    · refine V_tsi 78 d_mo_has_1 (by decide) (by decide) rfl (by decide) ?_
      refine V_aload_0 d_mo_has_78 ?_
      refine V_cvI0 d_mo_has_79 ml_mo_328 mv_mo_seenMany (by decide) (Nat.le_of_ble_eq_true rfl) is_mo (ok_seenMany hG) ?_
      rintro _ f2 ⟨rfl, e2⟩
      rw [e2]; clear e2 f2
      refine V_ireturn d_mo_has_82 (hR _ _ ?_)
      exact ⟨rfl, rfl⟩
    · refine V_tsi 83 d_mo_has_1 (by decide) (by decide) rfl (by decide) ?_
      refine V_aload_0 d_mo_has_83 ?_
      refine V_getR d_mo_has_84 fl_mo_93 is_mo r_mo_many ?_
      refine V_bipush 13 d_mo_has_87 (by decide) ?_
      refine V_iald d_mo_has_89 is_mo_many (by omega) (by omega) ?_
      refine V_ireturn d_mo_has_90 (hR _ _ ?_)
      exact ⟨e5, rfl⟩
    · refine V_tsi 91 d_mo_has_1 (by decide) (by decide) rfl (by decide) ?_
      refine V_aload_0 d_mo_has_91 ?_
      refine V_getI d_mo_has_92 fl_mo_325 is_mo ?_
      refine V_ireturn d_mo_has_95 (hR _ _ ?_)
      exact ⟨hG.2.1, rfl⟩
    · refine V_tsi 96 d_mo_has_1 (by decide) (by decide) rfl (by decide) ?_
      refine V_aload_0 d_mo_has_96 ?_
      refine V_cvI0 d_mo_has_97 ml_mo_328 mv_mo_seenMany (by decide) (Nat.le_of_ble_eq_true rfl) is_mo (ok_seenMany hG) ?_
      rintro _ f2 ⟨rfl, e2⟩
      rw [e2]; clear e2 f2
      refine V_aload_0 d_mo_has_100 ?_
      refine V_iconst (-1) d_mo_has_101 ?_
      refine V_cvI1 d_mo_has_102 ml_mo_440 mv_mo_hiredBy (by decide) (Nat.le_of_ble_eq_true rfl) is_mo (ok_hiredBy hG hH hF.1 hF.2.1 (by omega)) ?_
      rintro _ f2 ⟨rfl, e2⟩
      rw [e2]; clear e2 f2
      refine V_csI1 d_mo_has_105 ml_mo_443 ms_mo_bits (by decide) (Nat.le_of_ble_eq_true rfl) (ok_bits) ?_
      rintro _ f2 ⟨rfl, e2⟩
      rw [e2]; clear e2 f2
      refine V_isub d_mo_has_108 ?_
      refine V_ireturn d_mo_has_109 (hR _ _ ?_)
      refine ⟨?_, rfl⟩
      show A 0 4 0 - cnt (held A (-1)) = cnt (fun s => decide (s < A 0 4 0) && !held A (-1) s)
      have h1 := cntN_and (P := fun s => decide (s < A 0 4 0)) (Q := held A (-1)) 31 0
      have h2 := cntN_lt (n := A 0 4 0) 31 0 (by omega) (by omega)
      have h3 : cntN 31 0 (fun j => decide (j < A 0 4 0) && held A (-1) j) = cnt (held A (-1)) := cntN_eq 31 0 (fun j _ _ => by unfold held; cases decide (j < A 0 4 0) <;> simp)
      have h4 : cnt (fun s => decide (s < A 0 4 0) && !held A (-1) s) = cntN 31 0 (fun s => decide (s < A 0 4 0) && !held A (-1) s) := rfl
      omega
    · refine V_tsi 110 d_mo_has_1 (by decide) (by decide) rfl (by decide) ?_
      refine V_aload_0 d_mo_has_110 ?_
      refine V_getI d_mo_has_111 fl_mo_341 is_mo ?_
      refine V_ireturn d_mo_has_114 (hR _ _ ?_)
      exact ⟨hH.2.1, rfl⟩
theorem mo_seen (hS : Mst f A) (hF : Wf A) {s w : Int} (hs : -2147483648 ≤ s ∧ s < 2147483648) (hw : -2147483648 ≤ w ∧ w < 2147483648) : OkI D m_mo_seen [vr D 219, vi s, vi w] (Zg g h) f (fun x f' => x = S_seen A s w ∧ f' = f) := by
  have hn := hF.nn
  obtain ⟨hG, hH, hT⟩ := hS
  refine OkI_of (L0 := [vr D 219, vi s, vi w]) mi_mo_seen rfl rfl (Nat.le_of_ble_eq_true rfl) (fun C hR => ?_)
  refine V_aload_0 d_mo_seen_0 ?_
  refine V_iload_1 d_mo_seen_1 ?_
  refine V_cvI1 d_mo_seen_2 ml_mo_456 mv_mo_isSeen (by decide) (Nat.le_of_ble_eq_true rfl) is_mo (ok_isSeen hG hF.1 hs) ?_
  rintro x2 f2 ⟨hx2, e2⟩
  rw [e2]; clear e2 f2
  refine V_if_eq 20 d_mo_seen_5 (by decide) (by omega) (fun c5 => ?_) (fun c5 => ?_)
  · skip
    refine V_iconst (-1) d_mo_seen_20 ?_
    refine V_ireturn d_mo_seen_21 (hR _ _ ?_)
    refine ⟨?_, rfl⟩
    unfold S_seen
    first | (rw [if_neg (by omega)]; done) | (rw [if_pos (by omega), if_neg (by omega), if_neg (by omega)]; done)
  · skip
    refine V_iload_2 d_mo_seen_8 ?_
    refine V_i2l d_mo_seen_9 (by omega) ?_
    refine V_lconst0 d_mo_seen_10 ?_
    refine V_ldc2 5 d_mo_seen_11 co_mo_448 rfl ?_
    refine V_csI3 d_mo_seen_14 ml_mo_225 ms_mo_isIn (by decide) (Nat.le_of_ble_eq_true rfl) (ok_isIn (by omega) (by omega) (by omega)) ?_
    rintro x14 f2 ⟨hx14, e2⟩
    rw [e2]; clear e2 f2
    refine V_if_ne 22 d_mo_seen_17 (by decide) (by omega) (fun c17 => ?_) (fun c17 => ?_)
    · skip
      refine V_iload_2 d_mo_seen_22 ?_
      refine V_iconst 5 d_mo_seen_23 ?_
      refine V_icmp_ne 36 d_mo_seen_24 (by decide) (by omega) (by omega) (fun c24 => ?_) (fun c24 => ?_)
      · skip
        refine V_aload_0 d_mo_seen_36 ?_
        refine V_getR d_mo_seen_37 fl_mo_118 is_mo r_mo_sighted ?_
        refine V_bipush 120 d_mo_seen_40 (by decide) ?_
        refine V_iconst 5 d_mo_seen_42 ?_
        refine V_iload_1 d_mo_seen_43 ?_
        refine V_imul d_mo_seen_44 ?_
        refine V_iadd d_mo_seen_45 ?_
        refine V_iload_2 d_mo_seen_46 ?_
        refine V_iadd d_mo_seen_47 ?_
        refine V_iald d_mo_seen_48 is_mo_sighted (by omega) (by omega) ?_
        refine V_ireturn d_mo_seen_49 (hR _ _ ?_)
        refine ⟨?_, rfl⟩
        unfold S_seen; rw [if_pos (by omega)]
        first | (rw [if_neg (by omega), if_pos (by omega)]; exact hH.1 s (by omega) (by omega)) | (rw [if_pos (by omega)]; exact hG.2.2.2.2.2.2.2.2.1 s w (by omega) (by omega) (by omega) (by omega))
      · skip
        refine V_aload_0 d_mo_seen_27 ?_
        refine V_getR d_mo_seen_28 fl_mo_148 is_mo r_mo_hired ?_
        refine V_iload_1 d_mo_seen_31 ?_
        refine V_iald d_mo_seen_32 is_mo_hired (by omega) (by omega) ?_
        refine V_goto 49 d_mo_seen_33 (by decide) ?_
        refine V_ireturn d_mo_seen_49 (hR _ _ ?_)
        refine ⟨?_, rfl⟩
        unfold S_seen; rw [if_pos (by omega)]
        first | (rw [if_neg (by omega), if_pos (by omega)]; exact hH.1 s (by omega) (by omega)) | (rw [if_pos (by omega)]; exact hG.2.2.2.2.2.2.2.2.1 s w (by omega) (by omega) (by omega) (by omega))
    · skip
      refine V_iconst (-1) d_mo_seen_20 ?_
      refine V_ireturn d_mo_seen_21 (hR _ _ ?_)
      refine ⟨?_, rfl⟩
      unfold S_seen
      first | (rw [if_neg (by omega)]; done) | (rw [if_pos (by omega), if_neg (by omega), if_neg (by omega)]; done)
theorem mo_far (hS : Mst f A) (hF : Wf A) {a b : Int} (ha : -2147483648 ≤ a ∧ a < 2147483648) (hb : -2147483648 ≤ b ∧ b < 2147483648) : OkI D m_mo_far [vr D 219, vi a, vi b] (Zg g h) f (fun x f' => x = S_far A a b ∧ f' = f) := by
  have hn := hF.nn
  obtain ⟨hG, hH, hT⟩ := hS
  refine OkI_of (L0 := [vr D 219, vi a, vi b, vu]) mi_mo_far rfl rfl (Nat.le_of_ble_eq_true rfl) (fun C hR => ?_)
  refine V_aload_0 d_mo_far_0 ?_
  refine V_iload_1 d_mo_far_1 ?_
  refine V_cvI1 d_mo_far_2 ml_mo_459 mv_mo_isPlaceHere (by decide) (Nat.le_of_ble_eq_true rfl) is_mo (ok_isPlaceHere hG hF.1 ha) ?_
  rintro x2 f2 ⟨hx2, e2⟩
  rw [e2]; clear e2 f2
  refine V_if_eq 16 d_mo_far_5 (by decide) (by omega) (fun c5 => ?_) (fun c5 => ?_)
  · skip
    refine V_iconst (-1) d_mo_far_16 ?_
    refine V_ireturn d_mo_far_17 (hR _ _ ?_)
    refine ⟨?_, rfl⟩
    unfold S_far; rw [if_neg (by omega)]
  · skip
    refine V_aload_0 d_mo_far_8 ?_
    refine V_iload_2 d_mo_far_9 ?_
    refine V_cvI1 d_mo_far_10 ml_mo_459 mv_mo_isPlaceHere (by decide) (Nat.le_of_ble_eq_true rfl) is_mo (ok_isPlaceHere hG hF.1 hb) ?_
    rintro x10 f2 ⟨hx10, e2⟩
    rw [e2]; clear e2 f2
    refine V_if_ne 18 d_mo_far_13 (by decide) (by omega) (fun c13 => ?_) (fun c13 => ?_)
    · skip
      have e := hG.far (a := a) (b := b) (by omega) (by omega)
      have e2 := hF.1.2.2.1 a b (by omega) (by omega) (by omega) (by omega)
      refine V_aload_0 d_mo_far_18 ?_
      refine V_getR d_mo_far_19 fl_mo_115 is_mo r_mo_roads ?_
      refine V_bipush 64 d_mo_far_22 (by decide) ?_
      refine V_bipush 8 d_mo_far_24 (by decide) ?_
      refine V_iload_1 d_mo_far_26 ?_
      refine V_imul d_mo_far_27 ?_
      refine V_iadd d_mo_far_28 ?_
      refine V_iload_2 d_mo_far_29 ?_
      refine V_iadd d_mo_far_30 ?_
      refine V_iald d_mo_far_31 is_mo_roads (by omega) (by omega) ?_
      rw [e]
      refine V_istore_3 d_mo_far_32 rfl ?_
      refine V_iload_3 d_mo_far_33 ?_
      refine V_sipush 1000 d_mo_far_34 (by decide) ?_
      refine V_icmp_lt 44 d_mo_far_37 (by decide) (by omega) (by omega) (fun c37 => ?_) (fun c37 => ?_)
      · skip
        refine V_iload_3 d_mo_far_44 ?_
        refine V_ireturn d_mo_far_45 (hR _ _ ?_)
        refine ⟨?_, rfl⟩
        unfold S_far
        first | (rw [if_neg (by omega)]; done) | (rw [if_pos (by omega)]; done)
      · skip
        refine V_iconst (-1) d_mo_far_40 ?_
        refine V_goto 45 d_mo_far_41 (by decide) ?_
        refine V_ireturn d_mo_far_45 (hR _ _ ?_)
        refine ⟨?_, rfl⟩
        unfold S_far
        first | (rw [if_neg (by omega)]; done) | (rw [if_pos (by omega)]; done)
    · skip
      refine V_iconst (-1) d_mo_far_16 ?_
      refine V_ireturn d_mo_far_17 (hR _ _ ?_)
      refine ⟨?_, rfl⟩
      unfold S_far; rw [if_neg (by omega)]
theorem mo_pass (hS : Mst f A) (hF : Wf A) {a b : Int} (ha : -2147483648 ≤ a ∧ a < 2147483648) (hb : -2147483648 ≤ b ∧ b < 2147483648) : OkI D m_mo_pass [vr D 219, vi a, vi b] (Zg g h) f (fun x f' => x = S_pass A a b ∧ f' = f) := by
  have hn := hF.nn
  obtain ⟨hG, hH, hT⟩ := hS
  refine OkI_of (L0 := [vr D 219, vi a, vi b]) mi_mo_pass rfl rfl (Nat.le_of_ble_eq_true rfl) (fun C hR => ?_)
  refine V_aload_0 d_mo_pass_0 ?_
  refine V_iload_1 d_mo_pass_1 ?_
  refine V_cvI1 d_mo_pass_2 ml_mo_453 mv_mo_isShade (by decide) (Nat.le_of_ble_eq_true rfl) is_mo (okm_isShade hG hF.1 ha) ?_
  rintro x2 f2 ⟨hx2, e2⟩
  rw [e2]; clear e2 f2
  refine V_if_eq 30 d_mo_pass_5 (by decide) (by omega) (fun c5 => ?_) (fun c5 => ?_)
  · skip
    refine V_iconst (-1) d_mo_pass_30 ?_
    refine V_ireturn d_mo_pass_31 (hR _ _ ?_)
    refine ⟨?_, rfl⟩
    unfold S_pass
    first | (rw [if_neg (by omega)]; done) | (rw [if_pos (by omega)]; exact (hG.pp hF.1 (by omega) (by omega)).1.1)
  · skip
    refine V_aload_0 d_mo_pass_8 ?_
    refine V_iload_2 d_mo_pass_9 ?_
    refine V_cvI1 d_mo_pass_10 ml_mo_456 mv_mo_isSeen (by decide) (Nat.le_of_ble_eq_true rfl) is_mo (ok_isSeen hG hF.1 hb) ?_
    rintro x10 f2 ⟨hx10, e2⟩
    rw [e2]; clear e2 f2
    refine V_if_eq 30 d_mo_pass_13 (by decide) (by omega) (fun c13 => ?_) (fun c13 => ?_)
    · skip
      refine V_iconst (-1) d_mo_pass_30 ?_
      refine V_ireturn d_mo_pass_31 (hR _ _ ?_)
      refine ⟨?_, rfl⟩
      unfold S_pass
      first | (rw [if_neg (by omega)]; done) | (rw [if_pos (by omega)]; exact (hG.pp hF.1 (by omega) (by omega)).1.1)
    · skip
      refine V_aload_0 d_mo_pass_16 ?_
      refine V_getR d_mo_pass_17 fl_mo_142 is_mo r_mo_passOf ?_
      refine V_bipush 24 d_mo_pass_20 (by decide) ?_
      refine V_iload_1 d_mo_pass_22 ?_
      refine V_imul d_mo_pass_23 ?_
      refine V_iload_2 d_mo_pass_24 ?_
      refine V_iadd d_mo_pass_25 ?_
      refine V_iald d_mo_pass_26 is_mo_passOf (by omega) (by omega) ?_
      refine V_goto 31 d_mo_pass_27 (by decide) ?_
      refine V_ireturn d_mo_pass_31 (hR _ _ ?_)
      refine ⟨?_, rfl⟩
      unfold S_pass
      first | (rw [if_neg (by omega)]; done) | (rw [if_pos (by omega)]; exact (hG.pp hF.1 (by omega) (by omega)).1.1)
theorem mo_price (hS : Mst f A) (hF : Wf A) {a b : Int} (ha : -2147483648 ≤ a ∧ a < 2147483648) (hb : -2147483648 ≤ b ∧ b < 2147483648) : OkI D m_mo_price [vr D 219, vi a, vi b] (Zg g h) f (fun x f' => x = S_price A a b ∧ f' = f) := by
  have hn := hF.nn
  obtain ⟨hG, hH, hT⟩ := hS
  refine OkI_of (L0 := [vr D 219, vi a, vi b]) mi_mo_price rfl rfl (Nat.le_of_ble_eq_true rfl) (fun C hR => ?_)
  refine V_aload_0 d_mo_price_0 ?_
  refine V_iload_1 d_mo_price_1 ?_
  refine V_cvI1 d_mo_price_2 ml_mo_453 mv_mo_isShade (by decide) (Nat.le_of_ble_eq_true rfl) is_mo (okm_isShade hG hF.1 ha) ?_
  rintro x2 f2 ⟨hx2, e2⟩
  rw [e2]; clear e2 f2
  refine V_if_eq 30 d_mo_price_5 (by decide) (by omega) (fun c5 => ?_) (fun c5 => ?_)
  · skip
    refine V_iconst (-1) d_mo_price_30 ?_
    refine V_ireturn d_mo_price_31 (hR _ _ ?_)
    refine ⟨?_, rfl⟩
    unfold S_price
    first | (rw [if_neg (by omega)]; done) | (rw [if_pos (by omega)]; exact (hG.pp hF.1 (by omega) (by omega)).1.2)
  · skip
    refine V_aload_0 d_mo_price_8 ?_
    refine V_iload_2 d_mo_price_9 ?_
    refine V_cvI1 d_mo_price_10 ml_mo_456 mv_mo_isSeen (by decide) (Nat.le_of_ble_eq_true rfl) is_mo (ok_isSeen hG hF.1 hb) ?_
    rintro x10 f2 ⟨hx10, e2⟩
    rw [e2]; clear e2 f2
    refine V_if_eq 30 d_mo_price_13 (by decide) (by omega) (fun c13 => ?_) (fun c13 => ?_)
    · skip
      refine V_iconst (-1) d_mo_price_30 ?_
      refine V_ireturn d_mo_price_31 (hR _ _ ?_)
      refine ⟨?_, rfl⟩
      unfold S_price
      first | (rw [if_neg (by omega)]; done) | (rw [if_pos (by omega)]; exact (hG.pp hF.1 (by omega) (by omega)).1.2)
    · skip
      refine V_aload_0 d_mo_price_16 ?_
      refine V_getR d_mo_price_17 fl_mo_145 is_mo r_mo_priceOf ?_
      refine V_bipush 24 d_mo_price_20 (by decide) ?_
      refine V_iload_1 d_mo_price_22 ?_
      refine V_imul d_mo_price_23 ?_
      refine V_iload_2 d_mo_price_24 ?_
      refine V_iadd d_mo_price_25 ?_
      refine V_iald d_mo_price_26 is_mo_priceOf (by omega) (by omega) ?_
      refine V_goto 31 d_mo_price_27 (by decide) ?_
      refine V_ireturn d_mo_price_31 (hR _ _ ?_)
      refine ⟨?_, rfl⟩
      unfold S_price
      first | (rw [if_neg (by omega)]; done) | (rw [if_pos (by omega)]; exact (hG.pp hF.1 (by omega) (by omega)).1.2)
theorem mo_canBe (hS : Mst f A) (hF : Wf A) {a b : Int} (ha : -2147483648 ≤ a ∧ a < 2147483648) (hb : -2147483648 ≤ b ∧ b < 2147483648) : OkI D m_mo_canBe [vr D 219, vi a, vi b] (Zg g h) f (fun x f' => x = S_canBe A a b ∧ f' = f) := by
  have hn := hF.nn
  obtain ⟨hG, hH, hT⟩ := hS
  refine OkI_of (L0 := [vr D 219, vi a, vi b]) mi_mo_canBe rfl rfl (Nat.le_of_ble_eq_true rfl) (fun C hR => ?_)
  refine V_aload_0 d_mo_canBe_0 ?_
  refine V_iload_1 d_mo_canBe_1 ?_
  refine V_cvI1 d_mo_canBe_2 ml_mo_456 mv_mo_isSeen (by decide) (Nat.le_of_ble_eq_true rfl) is_mo (ok_isSeen hG hF.1 ha) ?_
  rintro x2 f2 ⟨hx2, e2⟩
  rw [e2]; clear e2 f2
  refine V_if_eq 21 d_mo_canBe_5 (by decide) (by omega) (fun c5 => ?_) (fun c5 => ?_)
  · skip
    refine V_iconst (-1) d_mo_canBe_21 ?_
    refine V_goto 35 d_mo_canBe_22 (by decide) ?_
    refine V_ireturn d_mo_canBe_35 (hR _ _ ?_)
    refine ⟨?_, rfl⟩
    unfold S_canBe; rw [if_neg (by omega)]
  · skip
    refine V_aload_0 d_mo_canBe_8 ?_
    refine V_iload_2 d_mo_canBe_9 ?_
    refine V_cvI1 d_mo_canBe_10 ml_mo_456 mv_mo_isSeen (by decide) (Nat.le_of_ble_eq_true rfl) is_mo (ok_isSeen hG hF.1 hb) ?_
    rintro x10 f2 ⟨hx10, e2⟩
    rw [e2]; clear e2 f2
    refine V_if_eq 21 d_mo_canBe_13 (by decide) (by omega) (fun c13 => ?_) (fun c13 => ?_)
    · skip
      refine V_iconst (-1) d_mo_canBe_21 ?_
      refine V_goto 35 d_mo_canBe_22 (by decide) ?_
      refine V_ireturn d_mo_canBe_35 (hR _ _ ?_)
      refine ⟨?_, rfl⟩
      unfold S_canBe; rw [if_neg (by omega)]
    · skip
      refine V_iload_1 d_mo_canBe_16 ?_
      refine V_iload_2 d_mo_canBe_17 ?_
      refine V_icmp_ne 25 d_mo_canBe_18 (by decide) (by omega) (by omega) (fun c18 => ?_) (fun c18 => ?_)
      · skip
        refine V_aload_0 d_mo_canBe_25 ?_
        refine V_getR d_mo_canBe_26 fl_mo_151 is_mo r_mo_with ?_
        refine V_iload_1 d_mo_canBe_29 ?_
        refine V_iald d_mo_canBe_30 is_mo_with (by omega) (by omega) ?_
        refine V_iload_2 d_mo_canBe_31 ?_
        refine V_ishr d_mo_canBe_32 ?_
        refine V_iconst 1 d_mo_canBe_33 ?_
        refine V_iand d_mo_canBe_34 ?_
        refine V_ireturn d_mo_canBe_35 (hR _ _ ?_)
        refine ⟨?_, rfl⟩
        have e : S_canBe A a b = if can A a b then 1 else 0 := by unfold S_canBe; rw [if_pos (by omega)]
        have : decide (b < A 0 4 0) = true := by simp only [decide_eq_true_eq]; omega
        rw [e, hG.mt (by omega) (by omega), mB_bit _ (by omega), this]; rfl
      · skip
        refine V_iconst (-1) d_mo_canBe_21 ?_
        refine V_goto 35 d_mo_canBe_22 (by decide) ?_
        refine V_ireturn d_mo_canBe_35 (hR _ _ ?_)
        refine ⟨?_, rfl⟩
        unfold S_canBe; rw [if_neg (by omega)]
theorem mo_octet (hS : Mst f A) (hF : Wf A) {k : Int} (hk : -2147483648 ≤ k ∧ k < 2147483648) : OkI D m_mo_octet [vr D 219, vi k] (Zg g h) f (fun x f' => x = S_octet A k ∧ f' = f) := by
  obtain ⟨hG, hH, hT⟩ := hS
  have e := hT.2.2.2.2.2.1
  have hw := hF.2.2.2.2.2.2.2.1
  refine OkI_of (L0 := [vr D 219, vi k]) mi_mo_octet rfl rfl (Nat.le_of_ble_eq_true rfl) (fun C hR => ?_)
  refine V_iload_1 d_mo_octet_0 ?_
  refine V_if_lt 21 d_mo_octet_1 (by decide) (by omega) (fun c1 => ?_) (fun c1 => ?_)
  · skip
    refine V_iconst (-1) d_mo_octet_21 ?_
    refine V_ireturn d_mo_octet_22 (hR _ _ ?_)
    refine ⟨?_, rfl⟩
    unfold S_octet
    first | (rw [if_neg (by omega)]; done) | (rw [if_pos (by omega)]; exact hT.2.2.2.2.2.2 k (by omega) (by omega))
  · skip
    refine V_iload_1 d_mo_octet_4 ?_
    refine V_aload_0 d_mo_octet_5 ?_
    refine V_getI d_mo_octet_6 fl_mo_532 is_mo ?_
    refine V_icmp_ge 21 d_mo_octet_9 (by decide) (by omega) (by omega) (fun c9 => ?_) (fun c9 => ?_)
    · skip
      refine V_iconst (-1) d_mo_octet_21 ?_
      refine V_ireturn d_mo_octet_22 (hR _ _ ?_)
      refine ⟨?_, rfl⟩
      unfold S_octet
      first | (rw [if_neg (by omega)]; done) | (rw [if_pos (by omega)]; exact hT.2.2.2.2.2.2 k (by omega) (by omega))
    · skip
      refine V_aload_0 d_mo_octet_12 ?_
      refine V_getR d_mo_octet_13 fl_mo_179 is_mo r_mo_octet ?_
      refine V_iload_1 d_mo_octet_16 ?_
      refine V_iald d_mo_octet_17 is_mo_octet (by omega) (by omega) ?_
      refine V_goto 22 d_mo_octet_18 (by decide) ?_
      refine V_ireturn d_mo_octet_22 (hR _ _ ?_)
      refine ⟨?_, rfl⟩
      unfold S_octet
      first | (rw [if_neg (by omega)]; done) | (rw [if_pos (by omega)]; exact hT.2.2.2.2.2.2 k (by omega) (by omega))
theorem mo_trait (hS : Mst f A) (hF : Wf A) {t who w : Int} (ht : -2147483648 ≤ t ∧ t < 2147483648) (hwho : -2147483648 ≤ who ∧ who < 2147483648) (hw : -2147483648 ≤ w ∧ w < 2147483648) : OkI D m_mo_trait [vr D 219, vi t, vi who, vi w] (Zg g h) f (fun x f' => x = S_trait A t who w ∧ f' = f) := by
  have hn := hF.nn
  obtain ⟨hG, hH, hT⟩ := hS
  have e0 := hG.1.1
  refine OkI_of (L0 := [vr D 219, vi t, vi who, vi w]) mi_mo_trait rfl rfl (Nat.le_of_ble_eq_true rfl) (fun C hR => ?_)
  refine V_iload_1 d_mo_trait_0 ?_
  refine V_i2l d_mo_trait_1 (by omega) ?_
  refine V_lconst0 d_mo_trait_2 ?_
  refine V_aload_0 d_mo_trait_3 ?_
  refine V_getR d_mo_trait_4 fl_mo_93 is_mo r_mo_many ?_
  refine V_bipush 7 d_mo_trait_7 (by decide) ?_
  refine V_iald d_mo_trait_9 is_mo_many (by omega) (by omega) ?_
  refine V_iconst 1 d_mo_trait_10 ?_
  refine V_isub d_mo_trait_11 ?_
  refine V_i2l d_mo_trait_12 (by omega) ?_
  refine V_csI3 d_mo_trait_13 ml_mo_225 ms_mo_isIn (by decide) (Nat.le_of_ble_eq_true rfl) (ok_isIn (by omega) (by omega) (by omega)) ?_
  rintro x13 f2 ⟨hx13, e2⟩
  rw [e2]; clear e2 f2
  refine V_if_ne 21 d_mo_trait_16 (by decide) (by omega) (fun c16 => ?_) (fun c16 => ?_)
  · skip
    refine V_iload_3 d_mo_trait_21 ?_
    refine V_tsw 161 d_mo_trait_22 (by decide) (by omega) (fun c22 => ?_) (fun c22 => ?_)
    · skip
      refine V_iconst (-1) d_mo_trait_161 ?_
      refine V_ireturn d_mo_trait_162 (hR _ _ ?_)
      refine ⟨?_, rfl⟩
      unfold S_trait; rw [if_pos (by omega), if_neg (by omega), if_neg (by omega), if_neg (by omega), if_neg (by omega)]
    · rcases (show w = 0 ∨ w = 1 ∨ w = 2 ∨ w = 3 ∨ w = 4 by omega) with rfl | rfl | rfl | rfl | rfl
      · refine V_tsi 56 d_mo_trait_22 (by decide) (by decide) rfl (by decide) ?_
        refine V_iload_2 d_mo_trait_56 ?_
        refine V_iconst (-1) d_mo_trait_57 ?_
        refine V_icmp_ne 78 d_mo_trait_58 (by decide) (by omega) (by omega) (fun c58 => ?_) (fun c58 => ?_)
        · skip
          refine V_iconst (-1) d_mo_trait_78 ?_
          refine V_ireturn d_mo_trait_79 (hR _ _ ?_)
          refine ⟨?_, rfl⟩
          unfold S_trait; rw [if_pos (by omega)]
          first | (rw [if_neg (by omega), if_neg (by omega), if_neg (by omega), if_neg (by omega)]; done) | (rw [if_pos (by omega)]; exact hG.2.2.2.1 t _ (by omega) (by omega) (by omega) (by omega))
        · skip
          refine V_aload_0 d_mo_trait_61 ?_
          refine V_getR d_mo_trait_62 fl_mo_100 is_mo r_mo_shows ?_
          refine V_bipush 12 d_mo_trait_65 (by decide) ?_
          refine V_bipush 6 d_mo_trait_67 (by decide) ?_
          refine V_iload_3 d_mo_trait_69 ?_
          refine V_imul d_mo_trait_70 ?_
          refine V_iadd d_mo_trait_71 ?_
          refine V_iload_1 d_mo_trait_72 ?_
          refine V_iadd d_mo_trait_73 ?_
          refine V_iald d_mo_trait_74 is_mo_shows (by omega) (by omega) ?_
          refine V_goto 79 d_mo_trait_75 (by decide) ?_
          refine V_ireturn d_mo_trait_79 (hR _ _ ?_)
          refine ⟨?_, rfl⟩
          unfold S_trait; rw [if_pos (by omega)]
          first | (rw [if_neg (by omega), if_neg (by omega), if_neg (by omega), if_neg (by omega)]; done) | (rw [if_pos (by omega)]; exact hG.2.2.2.1 t _ (by omega) (by omega) (by omega) (by omega))
      · refine V_tsi 56 d_mo_trait_22 (by decide) (by decide) rfl (by decide) ?_
        refine V_iload_2 d_mo_trait_56 ?_
        refine V_iconst (-1) d_mo_trait_57 ?_
        refine V_icmp_ne 78 d_mo_trait_58 (by decide) (by omega) (by omega) (fun c58 => ?_) (fun c58 => ?_)
        · skip
          refine V_iconst (-1) d_mo_trait_78 ?_
          refine V_ireturn d_mo_trait_79 (hR _ _ ?_)
          refine ⟨?_, rfl⟩
          unfold S_trait; rw [if_pos (by omega)]
          first | (rw [if_neg (by omega), if_neg (by omega), if_neg (by omega), if_neg (by omega)]; done) | (rw [if_pos (by omega)]; exact hG.2.2.2.1 t _ (by omega) (by omega) (by omega) (by omega))
        · skip
          refine V_aload_0 d_mo_trait_61 ?_
          refine V_getR d_mo_trait_62 fl_mo_100 is_mo r_mo_shows ?_
          refine V_bipush 12 d_mo_trait_65 (by decide) ?_
          refine V_bipush 6 d_mo_trait_67 (by decide) ?_
          refine V_iload_3 d_mo_trait_69 ?_
          refine V_imul d_mo_trait_70 ?_
          refine V_iadd d_mo_trait_71 ?_
          refine V_iload_1 d_mo_trait_72 ?_
          refine V_iadd d_mo_trait_73 ?_
          refine V_iald d_mo_trait_74 is_mo_shows (by omega) (by omega) ?_
          refine V_goto 79 d_mo_trait_75 (by decide) ?_
          refine V_ireturn d_mo_trait_79 (hR _ _ ?_)
          refine ⟨?_, rfl⟩
          unfold S_trait; rw [if_pos (by omega)]
          first | (rw [if_neg (by omega), if_neg (by omega), if_neg (by omega), if_neg (by omega)]; done) | (rw [if_pos (by omega)]; exact hG.2.2.2.1 t _ (by omega) (by omega) (by omega) (by omega))
      · refine V_tsi 80 d_mo_trait_22 (by decide) (by decide) rfl (by decide) ?_
        refine V_aload_0 d_mo_trait_80 ?_
        refine V_iload_2 d_mo_trait_81 ?_
        refine V_cvI1 d_mo_trait_82 ml_mo_450 mv_mo_isPerson (by decide) (Nat.le_of_ble_eq_true rfl) is_mo (ok_isPerson hG hF.1 hwho) ?_
        rintro x82 f2 ⟨hx82, e2⟩
        rw [e2]; clear e2 f2
        refine V_if_eq 105 d_mo_trait_85 (by decide) (by omega) (fun c85 => ?_) (fun c85 => ?_)
        · skip
          refine V_iconst (-1) d_mo_trait_105 ?_
          refine V_ireturn d_mo_trait_106 (hR _ _ ?_)
          refine ⟨?_, rfl⟩
          unfold S_trait; rw [if_pos (by omega)]
          first | (rw [if_neg (by omega), if_neg (by omega), if_neg (by omega), if_neg (by omega)]; done) | (rw [if_neg (by omega), if_pos (by omega)]; exact hG.2.2.2.2.1 who t (by omega) (by omega) (by omega) (by omega))
        · skip
          refine V_aload_0 d_mo_trait_88 ?_
          refine V_getR d_mo_trait_89 fl_mo_103 is_mo r_mo_personHas ?_
          refine V_bipush 48 d_mo_trait_92 (by decide) ?_
          refine V_bipush 6 d_mo_trait_94 (by decide) ?_
          refine V_iload_2 d_mo_trait_96 ?_
          refine V_imul d_mo_trait_97 ?_
          refine V_iadd d_mo_trait_98 ?_
          refine V_iload_1 d_mo_trait_99 ?_
          refine V_iadd d_mo_trait_100 ?_
          refine V_iald d_mo_trait_101 is_mo_personHas (by omega) (by omega) ?_
          refine V_goto 106 d_mo_trait_102 (by decide) ?_
          refine V_ireturn d_mo_trait_106 (hR _ _ ?_)
          refine ⟨?_, rfl⟩
          unfold S_trait; rw [if_pos (by omega)]
          first | (rw [if_neg (by omega), if_neg (by omega), if_neg (by omega), if_neg (by omega)]; done) | (rw [if_neg (by omega), if_pos (by omega)]; exact hG.2.2.2.2.1 who t (by omega) (by omega) (by omega) (by omega))
      · refine V_tsi 107 d_mo_trait_22 (by decide) (by decide) rfl (by decide) ?_
        refine V_aload_0 d_mo_trait_107 ?_
        refine V_iload_2 d_mo_trait_108 ?_
        refine V_cvI1 d_mo_trait_109 ml_mo_453 mv_mo_isShade (by decide) (Nat.le_of_ble_eq_true rfl) is_mo (okm_isShade hG hF.1 hwho) ?_
        rintro x109 f2 ⟨hx109, e2⟩
        rw [e2]; clear e2 f2
        refine V_if_eq 132 d_mo_trait_112 (by decide) (by omega) (fun c112 => ?_) (fun c112 => ?_)
        · skip
          refine V_iconst (-1) d_mo_trait_132 ?_
          refine V_ireturn d_mo_trait_133 (hR _ _ ?_)
          refine ⟨?_, rfl⟩
          unfold S_trait; rw [if_pos (by omega)]
          first | (rw [if_neg (by omega), if_neg (by omega), if_neg (by omega), if_neg (by omega)]; done) | (rw [if_neg (by omega), if_neg (by omega), if_pos (by omega)]; exact (hG.2.2.2.2.2.1 who t (by omega) (by omega) (by omega) (by omega)).1)
        · skip
          refine V_aload_0 d_mo_trait_115 ?_
          refine V_getR d_mo_trait_116 fl_mo_106 is_mo r_mo_shadeHas ?_
          refine V_bipush 30 d_mo_trait_119 (by decide) ?_
          refine V_bipush 6 d_mo_trait_121 (by decide) ?_
          refine V_iload_2 d_mo_trait_123 ?_
          refine V_imul d_mo_trait_124 ?_
          refine V_iadd d_mo_trait_125 ?_
          refine V_iload_1 d_mo_trait_126 ?_
          refine V_iadd d_mo_trait_127 ?_
          refine V_iald d_mo_trait_128 is_mo_shadeHas (by omega) (by omega) ?_
          refine V_goto 133 d_mo_trait_129 (by decide) ?_
          refine V_ireturn d_mo_trait_133 (hR _ _ ?_)
          refine ⟨?_, rfl⟩
          unfold S_trait; rw [if_pos (by omega)]
          first | (rw [if_neg (by omega), if_neg (by omega), if_neg (by omega), if_neg (by omega)]; done) | (rw [if_neg (by omega), if_neg (by omega), if_pos (by omega)]; exact (hG.2.2.2.2.2.1 who t (by omega) (by omega) (by omega) (by omega)).1)
      · refine V_tsi 134 d_mo_trait_22 (by decide) (by decide) rfl (by decide) ?_
        refine V_aload_0 d_mo_trait_134 ?_
        refine V_iload_2 d_mo_trait_135 ?_
        refine V_cvI1 d_mo_trait_136 ml_mo_453 mv_mo_isShade (by decide) (Nat.le_of_ble_eq_true rfl) is_mo (okm_isShade hG hF.1 hwho) ?_
        rintro x136 f2 ⟨hx136, e2⟩
        rw [e2]; clear e2 f2
        refine V_if_eq 159 d_mo_trait_139 (by decide) (by omega) (fun c139 => ?_) (fun c139 => ?_)
        · skip
          refine V_iconst (-1) d_mo_trait_159 ?_
          refine V_ireturn d_mo_trait_160 (hR _ _ ?_)
          refine ⟨?_, rfl⟩
          unfold S_trait; rw [if_pos (by omega)]
          first | (rw [if_neg (by omega), if_neg (by omega), if_neg (by omega), if_neg (by omega)]; done) | (rw [if_neg (by omega), if_neg (by omega), if_neg (by omega), if_pos (by omega)]; exact (hG.2.2.2.2.2.1 who t (by omega) (by omega) (by omega) (by omega)).2)
        · skip
          refine V_aload_0 d_mo_trait_142 ?_
          refine V_getR d_mo_trait_143 fl_mo_109 is_mo r_mo_fakes ?_
          refine V_bipush 30 d_mo_trait_146 (by decide) ?_
          refine V_bipush 6 d_mo_trait_148 (by decide) ?_
          refine V_iload_2 d_mo_trait_150 ?_
          refine V_imul d_mo_trait_151 ?_
          refine V_iadd d_mo_trait_152 ?_
          refine V_iload_1 d_mo_trait_153 ?_
          refine V_iadd d_mo_trait_154 ?_
          refine V_iald d_mo_trait_155 is_mo_fakes (by omega) (by omega) ?_
          refine V_goto 160 d_mo_trait_156 (by decide) ?_
          refine V_ireturn d_mo_trait_160 (hR _ _ ?_)
          refine ⟨?_, rfl⟩
          unfold S_trait; rw [if_pos (by omega)]
          first | (rw [if_neg (by omega), if_neg (by omega), if_neg (by omega), if_neg (by omega)]; done) | (rw [if_neg (by omega), if_neg (by omega), if_neg (by omega), if_pos (by omega)]; exact (hG.2.2.2.2.2.1 who t (by omega) (by omega) (by omega) (by omega)).2)
  · skip
    refine V_iconst (-1) d_mo_trait_19 ?_
    refine V_ireturn d_mo_trait_20 (hR _ _ ?_)
    refine ⟨?_, rfl⟩
    unfold S_trait; rw [if_neg (by omega)]
end MO1
