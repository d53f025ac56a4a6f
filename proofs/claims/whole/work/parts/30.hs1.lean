/-! what the calls answer, in words of the state -/
def S_fault (A : q_As) (w : Int) : Int := if w = 0 then A 13 0 1 else if w = 1 then A 13 0 2 else -1
def S_has (A : q_As) (w : Int) : Int := if 0 ≤ w ∧ w ≤ 6 then A 0 w 0 else if w = 7 then cnt (fun s => decide (s < A 0 4 0) && !held A (-1) s) else if w = 8 then A 13 0 0 else -1
def S_letter (A : q_As) (i w k : Int) : Int := if (0 ≤ i ∧ i ≤ 3) ∧ (0 ≤ w ∧ w < A 0 i 0) ∧ (0 ≤ k ∧ k ≤ 5) then A 1 (8 * i + w) k else -1
def S_trait (A : q_As) (t who w : Int) : Int := if 0 ≤ t ∧ t < A 0 0 0 then (if (w = 0 ∨ w = 1) ∧ who = -1 then A 2 t w else if w = 2 ∧ (0 ≤ who ∧ who < A 0 1 0) then A 3 who t else if w = 3 ∧ (0 ≤ who ∧ who < A 0 2 0) then A 4 who t else if w = 4 ∧ (0 ≤ who ∧ who < A 0 2 0) then A 5 who t else -1) else -1
def S_seen (A : q_As) (s w : Int) : Int := if 0 ≤ s ∧ s < A 0 4 0 then (if 0 ≤ w ∧ w ≤ 4 then A 7 s w else if w = 5 then A 11 s 0 else -1) else -1
def S_far (A : q_As) (a b : Int) : Int := if (0 ≤ a ∧ a < A 0 3 0) ∧ (0 ≤ b ∧ b < A 0 3 0) ∧ A 6 a b < 1000 then A 6 a b else -1
def S_pass (A : q_As) (h s : Int) : Int := if (0 ≤ h ∧ h < A 0 2 0) ∧ (0 ≤ s ∧ s < A 0 4 0) then A 8 h s else -1
def S_price (A : q_As) (h s : Int) : Int := if (0 ≤ h ∧ h < A 0 2 0) ∧ (0 ≤ s ∧ s < A 0 4 0) then A 9 h s else -1
def bestN (A : q_As) (s most least : Int) : Nat → Int → Int → Int
  | 0, _, b => b
  | m + 1, i, b => bestN A s most least m (i + 1) (if most = 0 ∧ A 8 i s < least then b else if b = -1 ∨ (if most = 0 then A 9 i s < A 9 b s else A 8 b s < A 8 i s) then i else b)
def S_best (A : q_As) (s most least : Int) : Int := if 0 ≤ s ∧ s < A 0 4 0 then bestN A s most least (A 0 2 0).toNat 0 (-1) else -1
/-- nobody of a set is apart from a sighting -/
def allCan (A : q_As) (s : Int) (p : Int → Bool) : Prop := ∀ t, 0 ≤ t → t < A 0 4 0 → t ≠ s → p t = true → can A s t = true
def S_canBe (A : q_As) (s t : Int) : Int := if (0 ≤ s ∧ s < A 0 4 0) ∧ (0 ≤ t ∧ t < A 0 4 0) ∧ ¬ s = t then (if can A s t then 1 else 0) else -1
def S_octet (A : q_As) (k : Int) : Int := if 0 ≤ k ∧ k < A 13 0 5 then A 15 k 0 else -1
section HS1
variable {D : q_D} {f : q_F} {A : q_As} {g h : Int}
theorem Wf.nn (hF : Wf A) : (0 ≤ A 0 0 0 ∧ A 0 0 0 ≤ 6) ∧ (0 ≤ A 0 1 0 ∧ A 0 1 0 ≤ 8) ∧ (0 ≤ A 0 2 0 ∧ A 0 2 0 ≤ 5) ∧ (0 ≤ A 0 3 0 ∧ A 0 3 0 ≤ 8) ∧ (0 ≤ A 0 4 0 ∧ A 0 4 0 ≤ 24) ∧ (0 ≤ A 0 5 0 ∧ A 0 5 0 ≤ 6) ∧ (0 ≤ A 0 6 0 ∧ A 0 6 0 ≤ 100) := hF.1.1
theorem ok_isSighting (hS : Cst g f A) (hF : Wf A) {s : Int} (hs : -2147483648 ≤ s ∧ s < 2147483648) : OkI D m_hs_isSighting [vr D 0, vi s] (Zg g h) f (fun x f' => ((x = 1 ∧ (0 ≤ s ∧ s < A 0 4 0)) ∨ (x = 0 ∧ ¬ (0 ≤ s ∧ s < A 0 4 0))) ∧ f' = f) := by
  obtain ⟨hg, hG, hH, hT⟩ := hS
  refine OkB_of (L0 := [vr D 0, vi s]) mi_hs_isSighting rfl rfl (Nat.le_of_ble_eq_true rfl) (fun C hR => ?_)
  refine V_aload_0 d_hs_isSighting_0 ?_
  refine V_getR d_hs_isSighting_1 fl_hs_57 is_hs (r_hs_now hg) ?_
  refine V_iconst 4 d_hs_isSighting_4 ?_
  refine V_iload_1 d_hs_isSighting_5 ?_
  refine V_cvI2 d_hs_isSighting_6 ml_hs_112 mv_gd_isThere (by decide) (Nat.le_of_ble_eq_true rfl) (is_gd hg) (ok_isThere hg hG hF.1 (by omega) (by omega)) ?_
  rintro x6 f2 ⟨hx6, e2⟩
  rw [e2]; clear e2 f2
  refine V_ireturn d_hs_isSighting_9 (hR _ _ (by omega) ?_)
  exact ⟨hx6, rfl⟩
theorem ok_isShade (hS : Cst g f A) (hF : Wf A) {s : Int} (hs : -2147483648 ≤ s ∧ s < 2147483648) : OkI D m_hs_isShade [vr D 0, vi s] (Zg g h) f (fun x f' => ((x = 1 ∧ (0 ≤ s ∧ s < A 0 2 0)) ∨ (x = 0 ∧ ¬ (0 ≤ s ∧ s < A 0 2 0))) ∧ f' = f) := by
  obtain ⟨hg, hG, hH, hT⟩ := hS
  refine OkB_of (L0 := [vr D 0, vi s]) mi_hs_isShade rfl rfl (Nat.le_of_ble_eq_true rfl) (fun C hR => ?_)
  refine V_aload_0 d_hs_isShade_0 ?_
  refine V_getR d_hs_isShade_1 fl_hs_57 is_hs (r_hs_now hg) ?_
  refine V_iconst 2 d_hs_isShade_4 ?_
  refine V_iload_1 d_hs_isShade_5 ?_
  refine V_cvI2 d_hs_isShade_6 ml_hs_112 mv_gd_isThere (by decide) (Nat.le_of_ble_eq_true rfl) (is_gd hg) (ok_isThere hg hG hF.1 (by omega) (by omega)) ?_
  rintro x6 f2 ⟨hx6, e2⟩
  rw [e2]; clear e2 f2
  refine V_ireturn d_hs_isShade_9 (hR _ _ (by omega) ?_)
  exact ⟨hx6, rfl⟩
theorem ok_isPlaceAndHour (hS : Cst g f A) (hF : Wf A) {s t : Int} (hs : -2147483648 ≤ s ∧ s < 2147483648) (ht : -2147483648 ≤ t ∧ t < 2147483648) : OkI D m_hs_isPlaceAndHour [vr D 0, vi s, vi t] (Zg g h) f (fun x f' => ((x = 1 ∧ ((0 ≤ s ∧ s < A 0 3 0) ∧ 0 ≤ t ∧ t ≤ 99)) ∨ (x = 0 ∧ ¬ ((0 ≤ s ∧ s < A 0 3 0) ∧ 0 ≤ t ∧ t ≤ 99))) ∧ f' = f) := by
  obtain ⟨hg, hG, hH, hT⟩ := hS
  refine OkB_of (L0 := [vr D 0, vi s, vi t]) mi_hs_isPlaceAndHour rfl rfl (Nat.le_of_ble_eq_true rfl) (fun C hR => ?_)
  refine V_aload_0 d_hs_isPlaceAndHour_0 ?_
  refine V_getR d_hs_isPlaceAndHour_1 fl_hs_57 is_hs (r_hs_now hg) ?_
  refine V_iconst 3 d_hs_isPlaceAndHour_4 ?_
  refine V_iload_1 d_hs_isPlaceAndHour_5 ?_
  refine V_cvI2 d_hs_isPlaceAndHour_6 ml_hs_112 mv_gd_isThere (by decide) (Nat.le_of_ble_eq_true rfl) (is_gd hg) (ok_isThere hg hG hF.1 (by omega) (by omega)) ?_
  rintro x6 f2 ⟨hx6, e2⟩
  rw [e2]; clear e2 f2
  refine V_if_eq 26 d_hs_isPlaceAndHour_9 (by decide) (by omega) (fun c9 => ?_) (fun c9 => ?_)
  · skip
    refine V_iconst 0 d_hs_isPlaceAndHour_26 ?_
    refine V_ireturn d_hs_isPlaceAndHour_27 (hR _ _ (by decide) ?_)
    exact ⟨by omega, rfl⟩
  · skip
    refine V_iload_2 d_hs_isPlaceAndHour_12 ?_
    refine V_if_lt 26 d_hs_isPlaceAndHour_13 (by decide) (by omega) (fun c13 => ?_) (fun c13 => ?_)
    · skip
      refine V_iconst 0 d_hs_isPlaceAndHour_26 ?_
      refine V_ireturn d_hs_isPlaceAndHour_27 (hR _ _ (by decide) ?_)
      exact ⟨by omega, rfl⟩
    · skip
      refine V_iload_2 d_hs_isPlaceAndHour_16 ?_
      refine V_bipush 99 d_hs_isPlaceAndHour_17 (by decide) ?_
      refine V_icmp_gt 26 d_hs_isPlaceAndHour_19 (by decide) (by omega) (by omega) (fun c19 => ?_) (fun c19 => ?_)
      · skip
        refine V_iconst 0 d_hs_isPlaceAndHour_26 ?_
        refine V_ireturn d_hs_isPlaceAndHour_27 (hR _ _ (by decide) ?_)
        exact ⟨by omega, rfl⟩
      · skip
        refine V_iconst 1 d_hs_isPlaceAndHour_22 ?_
        refine V_goto 27 d_hs_isPlaceAndHour_23 (by decide) ?_
        refine V_ireturn d_hs_isPlaceAndHour_27 (hR _ _ (by decide) ?_)
        exact ⟨by omega, rfl⟩
theorem ok_heldBy (hS : Cst g f A) (hF : Wf A) {s : Int} (hs : -2147483648 ≤ s ∧ s < 2147483648) : OkI D m_hs_heldBy [vr D 0, vi s] (Zg g h) f (fun x f' => x = mB (held A s) ∧ f' = f) := by
  obtain ⟨hg, hG, hH, hT⟩ := hS
  refine OkI_of (L0 := [vr D 0, vi s]) mi_hs_heldBy rfl rfl (Nat.le_of_ble_eq_true rfl) (fun C hR => ?_)
  refine V_aload_0 d_hs_heldBy_0 ?_
  refine V_getR d_hs_heldBy_1 fl_hs_28 is_hs r_hs_hires ?_
  refine V_iload_1 d_hs_heldBy_4 ?_
  refine V_aload_0 d_hs_heldBy_5 ?_
  refine V_getR d_hs_heldBy_6 fl_hs_57 is_hs (r_hs_now hg) ?_
  refine V_getR d_hs_heldBy_9 fl_hs_90 (is_gd hg) (r_gd_counts hg) ?_
  refine V_iconst 4 d_hs_heldBy_12 ?_
  refine V_iald d_hs_heldBy_13 (is_gd_counts hg) (by omega) (by omega) ?_
  refine V_cvI2 d_hs_heldBy_14 ml_hs_277 mv_hi_held (by decide) (Nat.le_of_ble_eq_true rfl) is_hi (ok_held hH hF.1 hF.2.1 hs hG.c4) ?_
  rintro _ f2 ⟨rfl, e2⟩
  rw [e2]; clear e2 f2
  refine V_ireturn d_hs_heldBy_17 (hR _ _ ?_)
  exact ⟨rfl, rfl⟩
theorem ok_unhired (hS : Cst g f A) (hF : Wf A) : OkI D m_hs_unhired [vr D 0] (Zg g h) f (fun x f' => x = mB (held A (-1)) ∧ f' = f) := by
  refine OkI_of (L0 := [vr D 0]) mi_hs_unhired rfl rfl (Nat.le_of_ble_eq_true rfl) (fun C hR => ?_)
  refine V_aload_0 d_hs_unhired_0 ?_
  refine V_iconst (-1) d_hs_unhired_1 ?_
  refine V_cvI1 d_hs_unhired_2 ml_hs_168 mv_hs_heldBy (by decide) (Nat.le_of_ble_eq_true rfl) is_hs (ok_heldBy hS hF (by omega)) ?_
  rintro _ f2 ⟨rfl, e2⟩
  rw [e2]; clear e2 f2
  refine V_ireturn d_hs_unhired_5 (hR _ _ ?_)
  exact ⟨rfl, rfl⟩
theorem ok_unhiredOf (hS : Cst g f A) (hF : Wf A) {p : Int} (hp : -2147483648 ≤ p ∧ p < 2147483648) : OkI D m_hs_unhiredOf [vr D 0, vi p] (Zg g h) f (fun x f' => x = mB (own A p) ∧ f' = f) := by
  have hS' := hS
  obtain ⟨hg, hG, hH, hT⟩ := hS'
  refine OkI_of (L0 := [vr D 0, vi p]) mi_hs_unhiredOf rfl rfl (Nat.le_of_ble_eq_true rfl) (fun C hR => ?_)
  refine V_aload_0 d_hs_unhiredOf_0 ?_
  refine V_cvI0 d_hs_unhiredOf_1 ml_hs_100 mv_hs_unhired (by decide) (Nat.le_of_ble_eq_true rfl) is_hs (ok_unhired hS hF) ?_
  rintro _ f2 ⟨rfl, e2⟩
  rw [e2]; clear e2 f2
  refine V_aload_0 d_hs_unhiredOf_4 ?_
  refine V_getR d_hs_unhiredOf_5 fl_hs_57 is_hs (r_hs_now hg) ?_
  refine V_iload_1 d_hs_unhiredOf_8 ?_
  refine V_cvI1 d_hs_unhiredOf_9 ml_hs_280 mv_gd_sightingsOf (by decide) (Nat.le_of_ble_eq_true rfl) (is_gd hg) (ok_sightingsOf hg hG hF.1 hp) ?_
  rintro _ f2 ⟨rfl, e2⟩
  rw [e2]; clear e2 f2
  refine V_iand d_hs_unhiredOf_12 ?_
  refine V_ireturn d_hs_unhiredOf_13 (hR _ _ ?_)
  exact ⟨mB_and _ _, rfl⟩
theorem hs_fault (hS : Cst g f A) (hF : Wf A) {w : Int} (hw : -2147483648 ≤ w ∧ w < 2147483648) : OkI D m_hs_fault [vr D 0, vi w] (Zg g h) f (fun x f' => x = S_fault A w ∧ f' = f) := by
  obtain ⟨hg, hG, hH, hT⟩ := hS
  refine OkI_of (L0 := [vr D 0, vi w]) mi_hs_fault rfl rfl (Nat.le_of_ble_eq_true rfl) (fun C hR => ?_)
  refine V_iload_1 d_hs_fault_0 ?_
  refine V_if_ne 12 d_hs_fault_1 (by decide) (by omega) (fun c1 => ?_) (fun c1 => ?_)
  · skip
    refine V_iload_1 d_hs_fault_12 ?_
    refine V_iconst 1 d_hs_fault_13 ?_
    refine V_icmp_ne 27 d_hs_fault_14 (by decide) (by omega) (by omega) (fun c14 => ?_) (fun c14 => ?_)
    · skip
      refine V_iconst (-1) d_hs_fault_27 ?_
      refine V_ireturn d_hs_fault_28 (hR _ _ ?_)
      exact ⟨by unfold S_fault; rw [if_neg c1, if_neg c14], rfl⟩
    · skip
      refine V_aload_0 d_hs_fault_17 ?_
      refine V_getR d_hs_fault_18 fl_hs_10 is_hs r_hs_tape ?_
      refine V_getI d_hs_fault_21 fl_hs_87 is_tp ?_
      refine V_goto 28 d_hs_fault_24 (by decide) ?_
      refine V_ireturn d_hs_fault_28 (hR _ _ ?_)
      exact ⟨by unfold S_fault; rw [if_neg c1, if_pos c14, hT.2.2.2.1], rfl⟩
  · skip
    refine V_aload_0 d_hs_fault_4 ?_
    refine V_getR d_hs_fault_5 fl_hs_10 is_hs r_hs_tape ?_
    refine V_getI d_hs_fault_8 fl_hs_84 is_tp ?_
    refine V_ireturn d_hs_fault_11 (hR _ _ ?_)
    exact ⟨by unfold S_fault; rw [if_pos c1, hT.2.2.1], rfl⟩
theorem hs_has (hS : Cst g f A) (hF : Wf A) {w : Int} (hw : -2147483648 ≤ w ∧ w < 2147483648) : OkI D m_hs_has [vr D 0, vi w] (Zg g h) f (fun x f' => x = S_has A w ∧ f' = f) := by
  have hS' := hS
  obtain ⟨hg, hG, hH, hT⟩ := hS'
  refine OkI_of (L0 := [vr D 0, vi w]) mi_hs_has rfl rfl (Nat.le_of_ble_eq_true rfl) (fun C hR => ?_)
  refine V_iload_1 d_hs_has_0 ?_
  refine V_if_lt 19 d_hs_has_1 (by decide) (by omega) (fun c1 => ?_) (fun c1 => ?_)
  · skip
    refine V_iload_1 d_hs_has_19 ?_
    refine V_tsw 82 d_hs_has_20 (by decide) (by omega) (fun c20 => ?_) (fun c20 => ?_)
    · skip
      refine V_iconst (-1) d_hs_has_82 ?_
      refine V_ireturn d_hs_has_83 (hR _ _ ?_)
      refine ⟨?_, rfl⟩
      unfold S_has; rw [if_neg (by omega), if_neg (by omega), if_neg (by omega)]
    · rcases (show w = 6 ∨ w = 7 ∨ w = 8 by omega) with rfl | rfl | rfl
      · refine V_tsi 48 d_hs_has_20 (by decide) (by decide) rfl (by decide) ?_
        refine V_aload_0 d_hs_has_48 ?_
        refine V_getR d_hs_has_49 fl_hs_57 is_hs (r_hs_now hg) ?_
        refine V_getI d_hs_has_52 fl_hs_93 (is_gd hg) ?_
        refine V_ireturn d_hs_has_55 (hR _ _ ?_)
        exact ⟨hG.2.1, rfl⟩
      · refine V_tsi 56 d_hs_has_20 (by decide) (by decide) rfl (by decide) ?_
        refine V_aload_0 d_hs_has_56 ?_
        refine V_getR d_hs_has_57 fl_hs_57 is_hs (r_hs_now hg) ?_
        refine V_cvI0 d_hs_has_60 ml_hs_96 mv_gd_allSightings (by decide) (Nat.le_of_ble_eq_true rfl) (is_gd hg) (ok_allSightings hg hG hF.1) ?_
        rintro _ f2 ⟨rfl, e2⟩
        rw [e2]; clear e2 f2
        refine V_aload_0 d_hs_has_63 ?_
        refine V_cvI0 d_hs_has_64 ml_hs_100 mv_hs_unhired (by decide) (Nat.le_of_ble_eq_true rfl) is_hs (ok_unhired hS hF) ?_
        rintro _ f2 ⟨rfl, e2⟩
        rw [e2]; clear e2 f2
        refine V_iconst (-1) d_hs_has_67 ?_
        refine V_ixor d_hs_has_68 ?_
        refine V_iand d_hs_has_69 ?_
        rw [mB_andn]
        refine V_csI1 d_hs_has_70 ml_hs_103 ms_ji_bitCount (by decide) (Nat.le_of_ble_eq_true rfl) (ok_bitCount) ?_
        rintro _ f2 ⟨rfl, e2⟩
        rw [e2]; clear e2 f2
        refine V_ireturn d_hs_has_73 (hR _ _ ?_)
        exact ⟨rfl, rfl⟩
      · refine V_tsi 74 d_hs_has_20 (by decide) (by decide) rfl (by decide) ?_
        refine V_aload_0 d_hs_has_74 ?_
        refine V_getR d_hs_has_75 fl_hs_28 is_hs r_hs_hires ?_
        refine V_getI d_hs_has_78 fl_hs_109 is_hi ?_
        refine V_ireturn d_hs_has_81 (hR _ _ ?_)
        exact ⟨hH.2.1, rfl⟩
  · skip
    refine V_iload_1 d_hs_has_4 ?_
    refine V_iconst 5 d_hs_has_5 ?_
    refine V_icmp_gt 19 d_hs_has_6 (by decide) (by omega) (by omega) (fun c6 => ?_) (fun c6 => ?_)
    · skip
      refine V_iload_1 d_hs_has_19 ?_
      refine V_tsw 82 d_hs_has_20 (by decide) (by omega) (fun c20 => ?_) (fun c20 => ?_)
      · skip
        refine V_iconst (-1) d_hs_has_82 ?_
        refine V_ireturn d_hs_has_83 (hR _ _ ?_)
        refine ⟨?_, rfl⟩
        unfold S_has; rw [if_neg (by omega), if_neg (by omega), if_neg (by omega)]
      · rcases (show w = 6 ∨ w = 7 ∨ w = 8 by omega) with rfl | rfl | rfl
        · refine V_tsi 48 d_hs_has_20 (by decide) (by decide) rfl (by decide) ?_
          refine V_aload_0 d_hs_has_48 ?_
          refine V_getR d_hs_has_49 fl_hs_57 is_hs (r_hs_now hg) ?_
          refine V_getI d_hs_has_52 fl_hs_93 (is_gd hg) ?_
          refine V_ireturn d_hs_has_55 (hR _ _ ?_)
          exact ⟨hG.2.1, rfl⟩
        · refine V_tsi 56 d_hs_has_20 (by decide) (by decide) rfl (by decide) ?_
          refine V_aload_0 d_hs_has_56 ?_
          refine V_getR d_hs_has_57 fl_hs_57 is_hs (r_hs_now hg) ?_
          refine V_cvI0 d_hs_has_60 ml_hs_96 mv_gd_allSightings (by decide) (Nat.le_of_ble_eq_true rfl) (is_gd hg) (ok_allSightings hg hG hF.1) ?_
          rintro _ f2 ⟨rfl, e2⟩
          rw [e2]; clear e2 f2
          refine V_aload_0 d_hs_has_63 ?_
          refine V_cvI0 d_hs_has_64 ml_hs_100 mv_hs_unhired (by decide) (Nat.le_of_ble_eq_true rfl) is_hs (ok_unhired hS hF) ?_
          rintro _ f2 ⟨rfl, e2⟩
          rw [e2]; clear e2 f2
          refine V_iconst (-1) d_hs_has_67 ?_
          refine V_ixor d_hs_has_68 ?_
          refine V_iand d_hs_has_69 ?_
          rw [mB_andn]
          refine V_csI1 d_hs_has_70 ml_hs_103 ms_ji_bitCount (by decide) (Nat.le_of_ble_eq_true rfl) (ok_bitCount) ?_
          rintro _ f2 ⟨rfl, e2⟩
          rw [e2]; clear e2 f2
          refine V_ireturn d_hs_has_73 (hR _ _ ?_)
          exact ⟨rfl, rfl⟩
        · refine V_tsi 74 d_hs_has_20 (by decide) (by decide) rfl (by decide) ?_
          refine V_aload_0 d_hs_has_74 ?_
          refine V_getR d_hs_has_75 fl_hs_28 is_hs r_hs_hires ?_
          refine V_getI d_hs_has_78 fl_hs_109 is_hi ?_
          refine V_ireturn d_hs_has_81 (hR _ _ ?_)
          exact ⟨hH.2.1, rfl⟩
    · skip
      refine V_aload_0 d_hs_has_9 ?_
      refine V_getR d_hs_has_10 fl_hs_57 is_hs (r_hs_now hg) ?_
      refine V_getR d_hs_has_13 fl_hs_90 (is_gd hg) (r_gd_counts hg) ?_
      refine V_iload_1 d_hs_has_16 ?_
      refine V_iald d_hs_has_17 (is_gd_counts hg) (by omega) (by omega) ?_
      refine V_ireturn d_hs_has_18 (hR _ _ ?_)
      refine ⟨?_, rfl⟩
      unfold S_has; rw [if_pos (by omega)]; exact hG.1 w (by omega) (by omega)
theorem hs_seen (hS : Cst g f A) (hF : Wf A) {s w : Int} (hs : -2147483648 ≤ s ∧ s < 2147483648) (hw : -2147483648 ≤ w ∧ w < 2147483648) : OkI D m_hs_seen [vr D 0, vi s, vi w] (Zg g h) f (fun x f' => x = S_seen A s w ∧ f' = f) := by
  have hn := hF.nn
  have hS' := hS
  obtain ⟨hg, hG, hH, hT⟩ := hS'
  refine OkI_of (L0 := [vr D 0, vi s, vi w]) mi_hs_seen rfl rfl (Nat.le_of_ble_eq_true rfl) (fun C hR => ?_)
  refine V_aload_0 d_hs_seen_0 ?_
  refine V_iload_1 d_hs_seen_1 ?_
  refine V_cvI1 d_hs_seen_2 ml_hs_136 mv_hs_isSighting (by decide) (Nat.le_of_ble_eq_true rfl) is_hs (ok_isSighting hS hF hs) ?_
  rintro x2 f2 ⟨hx2, e2⟩
  rw [e2]; clear e2 f2
  refine V_if_ne 10 d_hs_seen_5 (by decide) (by omega) (fun c5 => ?_) (fun c5 => ?_)
  · skip
    refine V_iload_2 d_hs_seen_10 ?_
    refine V_if_lt 31 d_hs_seen_11 (by decide) (by omega) (fun c11 => ?_) (fun c11 => ?_)
    · skip
      refine V_iload_2 d_hs_seen_31 ?_
      refine V_iconst 5 d_hs_seen_32 ?_
      refine V_icmp_ne 48 d_hs_seen_33 (by decide) (by omega) (by omega) (fun c33 => ?_) (fun c33 => ?_)
      · skip
        refine V_iconst (-1) d_hs_seen_48 ?_
        refine V_ireturn d_hs_seen_49 (hR _ _ ?_)
        refine ⟨?_, rfl⟩
        unfold S_seen; rw [if_pos (by omega), if_neg (by omega)]
        first | (rw [if_neg (by omega)]; done) | (rw [if_pos (by omega)]; exact hH.1 s (by omega) (by omega))
      · skip
        refine V_aload_0 d_hs_seen_36 ?_
        refine V_getR d_hs_seen_37 fl_hs_28 is_hs r_hs_hires ?_
        refine V_getR d_hs_seen_40 fl_hs_143 is_hi r_hi_shadeOf ?_
        refine V_iload_1 d_hs_seen_43 ?_
        refine V_iald d_hs_seen_44 is_hi_shadeOf (by omega) (by omega) ?_
        refine V_goto 49 d_hs_seen_45 (by decide) ?_
        refine V_ireturn d_hs_seen_49 (hR _ _ ?_)
        refine ⟨?_, rfl⟩
        unfold S_seen; rw [if_pos (by omega), if_neg (by omega)]
        first | (rw [if_neg (by omega)]; done) | (rw [if_pos (by omega)]; exact hH.1 s (by omega) (by omega))
    · skip
      refine V_iload_2 d_hs_seen_14 ?_
      refine V_iconst 4 d_hs_seen_15 ?_
      refine V_icmp_gt 31 d_hs_seen_16 (by decide) (by omega) (by omega) (fun c16 => ?_) (fun c16 => ?_)
      · skip
        refine V_iload_2 d_hs_seen_31 ?_
        refine V_iconst 5 d_hs_seen_32 ?_
        refine V_icmp_ne 48 d_hs_seen_33 (by decide) (by omega) (by omega) (fun c33 => ?_) (fun c33 => ?_)
        · skip
          refine V_iconst (-1) d_hs_seen_48 ?_
          refine V_ireturn d_hs_seen_49 (hR _ _ ?_)
          refine ⟨?_, rfl⟩
          unfold S_seen; rw [if_pos (by omega), if_neg (by omega)]
          first | (rw [if_neg (by omega)]; done) | (rw [if_pos (by omega)]; exact hH.1 s (by omega) (by omega))
        · skip
          refine V_aload_0 d_hs_seen_36 ?_
          refine V_getR d_hs_seen_37 fl_hs_28 is_hs r_hs_hires ?_
          refine V_getR d_hs_seen_40 fl_hs_143 is_hi r_hi_shadeOf ?_
          refine V_iload_1 d_hs_seen_43 ?_
          refine V_iald d_hs_seen_44 is_hi_shadeOf (by omega) (by omega) ?_
          refine V_goto 49 d_hs_seen_45 (by decide) ?_
          refine V_ireturn d_hs_seen_49 (hR _ _ ?_)
          refine ⟨?_, rfl⟩
          unfold S_seen; rw [if_pos (by omega), if_neg (by omega)]
          first | (rw [if_neg (by omega)]; done) | (rw [if_pos (by omega)]; exact hH.1 s (by omega) (by omega))
      · skip
        refine V_aload_0 d_hs_seen_19 ?_
        refine V_getR d_hs_seen_20 fl_hs_57 is_hs (r_hs_now hg) ?_
        refine V_getR d_hs_seen_23 fl_hs_140 (is_gd hg) (r_gd_sightings hg) ?_
        refine V_iload_1 d_hs_seen_26 ?_
        refine V_aald d_hs_seen_27 (is_gd_sightings hg) (by omega) (by omega) (r_gd_sightingsrow hg (by omega)) ?_
        refine V_iload_2 d_hs_seen_28 ?_
        refine V_iald d_hs_seen_29 (is_gd_sightings_row hg (by omega)) (by omega) (by omega) ?_
        refine V_ireturn d_hs_seen_30 (hR _ _ ?_)
        refine ⟨?_, rfl⟩
        unfold S_seen; rw [if_pos (by omega), if_pos (by omega)]; exact hG.2.2.2.2.2.2.2.2.1 s w (by omega) (by omega) (by omega) (by omega)
  · skip
    refine V_iconst (-1) d_hs_seen_8 ?_
    refine V_ireturn d_hs_seen_9 (hR _ _ ?_)
    refine ⟨?_, rfl⟩
    unfold S_seen; rw [if_neg (by omega)]
theorem hs_far (hS : Cst g f A) (hF : Wf A) {a b : Int} (ha : -2147483648 ≤ a ∧ a < 2147483648) (hb : -2147483648 ≤ b ∧ b < 2147483648) : OkI D m_hs_far [vr D 0, vi a, vi b] (Zg g h) f (fun x f' => x = S_far A a b ∧ f' = f) := by
  have hn := hF.nn
  have hS' := hS
  obtain ⟨hg, hG, hH, hT⟩ := hS'
  refine OkI_of (L0 := [vr D 0, vi a, vi b, vu]) mi_hs_far rfl rfl (Nat.le_of_ble_eq_true rfl) (fun C hR => ?_)
  refine V_aload_0 d_hs_far_0 ?_
  refine V_getR d_hs_far_1 fl_hs_57 is_hs (r_hs_now hg) ?_
  refine V_iconst 3 d_hs_far_4 ?_
  refine V_iload_1 d_hs_far_5 ?_
  refine V_cvI2 d_hs_far_6 ml_hs_112 mv_gd_isThere (by decide) (Nat.le_of_ble_eq_true rfl) (is_gd hg) (ok_isThere hg hG hF.1 (by omega) (by omega)) ?_
  rintro x6 f2 ⟨hx6, e2⟩
  rw [e2]; clear e2 f2
  refine V_if_eq 24 d_hs_far_9 (by decide) (by omega) (fun c9 => ?_) (fun c9 => ?_)
  · skip
    refine V_iconst (-1) d_hs_far_24 ?_
    refine V_ireturn d_hs_far_25 (hR _ _ ?_)
    refine ⟨?_, rfl⟩
    unfold S_far; rw [if_neg (by omega)]
  · skip
    refine V_aload_0 d_hs_far_12 ?_
    refine V_getR d_hs_far_13 fl_hs_57 is_hs (r_hs_now hg) ?_
    refine V_iconst 3 d_hs_far_16 ?_
    refine V_iload_2 d_hs_far_17 ?_
    refine V_cvI2 d_hs_far_18 ml_hs_112 mv_gd_isThere (by decide) (Nat.le_of_ble_eq_true rfl) (is_gd hg) (ok_isThere hg hG hF.1 (by omega) (by omega)) ?_
    rintro x18 f2 ⟨hx18, e2⟩
    rw [e2]; clear e2 f2
    refine V_if_ne 26 d_hs_far_21 (by decide) (by omega) (fun c21 => ?_) (fun c21 => ?_)
    · skip
      have e := hG.far (a := a) (b := b) (by omega) (by omega)
      have e2 := hF.1.2.2.1 a b (by omega) (by omega) (by omega) (by omega)
      refine V_aload_0 d_hs_far_26 ?_
      refine V_getR d_hs_far_27 fl_hs_57 is_hs (r_hs_now hg) ?_
      refine V_getR d_hs_far_30 fl_hs_146 (is_gd hg) (r_gd_hours hg) ?_
      refine V_iload_1 d_hs_far_33 ?_
      refine V_aald d_hs_far_34 (is_gd_hours hg) (by omega) (by omega) (r_gd_hoursrow hg (by omega)) ?_
      refine V_iload_2 d_hs_far_35 ?_
      refine V_iald d_hs_far_36 (is_gd_hours_row hg (by omega)) (by omega) (by omega) ?_
      rw [e]
      refine V_istore_3 d_hs_far_37 rfl ?_
      refine V_iload_3 d_hs_far_38 ?_
      refine V_sipush 1000 d_hs_far_39 (by decide) ?_
      refine V_icmp_ge 49 d_hs_far_42 (by decide) (by omega) (by omega) (fun c42 => ?_) (fun c42 => ?_)
      · skip
        refine V_iconst (-1) d_hs_far_49 ?_
        refine V_ireturn d_hs_far_50 (hR _ _ ?_)
        refine ⟨?_, rfl⟩
        unfold S_far
        first | (rw [if_neg (by omega)]; done) | (rw [if_pos (by omega)]; done)
      · skip
        refine V_iload_3 d_hs_far_45 ?_
        refine V_goto 50 d_hs_far_46 (by decide) ?_
        refine V_ireturn d_hs_far_50 (hR _ _ ?_)
        refine ⟨?_, rfl⟩
        unfold S_far
        first | (rw [if_neg (by omega)]; done) | (rw [if_pos (by omega)]; done)
    · skip
      refine V_iconst (-1) d_hs_far_24 ?_
      refine V_ireturn d_hs_far_25 (hR _ _ ?_)
      refine ⟨?_, rfl⟩
      unfold S_far; rw [if_neg (by omega)]
theorem hs_pass (hS : Cst g f A) (hF : Wf A) {a b : Int} (ha : -2147483648 ≤ a ∧ a < 2147483648) (hb : -2147483648 ≤ b ∧ b < 2147483648) : OkI D m_hs_pass [vr D 0, vi a, vi b] (Zg g h) f (fun x f' => x = S_pass A a b ∧ f' = f) := by
  have hn := hF.nn
  have hS' := hS
  obtain ⟨hg, hG, hH, hT⟩ := hS'
  refine OkI_of (L0 := [vr D 0, vi a, vi b]) mi_hs_pass rfl rfl (Nat.le_of_ble_eq_true rfl) (fun C hR => ?_)
  refine V_aload_0 d_hs_pass_0 ?_
  refine V_iload_1 d_hs_pass_1 ?_
  refine V_cvI1 d_hs_pass_2 ml_hs_149 mv_hs_isShade (by decide) (Nat.le_of_ble_eq_true rfl) is_hs (ok_isShade hS hF ha) ?_
  rintro x2 f2 ⟨hx2, e2⟩
  rw [e2]; clear e2 f2
  refine V_if_eq 30 d_hs_pass_5 (by decide) (by omega) (fun c5 => ?_) (fun c5 => ?_)
  · skip
    refine V_iconst (-1) d_hs_pass_30 ?_
    refine V_ireturn d_hs_pass_31 (hR _ _ ?_)
    refine ⟨?_, rfl⟩
    unfold S_pass
    first | (rw [if_neg (by omega)]; done) | (rw [if_pos (by omega)]; exact (hG.pp hF.1 (by omega) (by omega)).1.1)
  · skip
    refine V_aload_0 d_hs_pass_8 ?_
    refine V_iload_2 d_hs_pass_9 ?_
    refine V_cvI1 d_hs_pass_10 ml_hs_136 mv_hs_isSighting (by decide) (Nat.le_of_ble_eq_true rfl) is_hs (ok_isSighting hS hF hb) ?_
    rintro x10 f2 ⟨hx10, e2⟩
    rw [e2]; clear e2 f2
    refine V_if_eq 30 d_hs_pass_13 (by decide) (by omega) (fun c13 => ?_) (fun c13 => ?_)
    · skip
      refine V_iconst (-1) d_hs_pass_30 ?_
      refine V_ireturn d_hs_pass_31 (hR _ _ ?_)
      refine ⟨?_, rfl⟩
      unfold S_pass
      first | (rw [if_neg (by omega)]; done) | (rw [if_pos (by omega)]; exact (hG.pp hF.1 (by omega) (by omega)).1.1)
    · skip
      refine V_aload_0 d_hs_pass_16 ?_
      refine V_getR d_hs_pass_17 fl_hs_57 is_hs (r_hs_now hg) ?_
      refine V_getR d_hs_pass_20 fl_hs_152 (is_gd hg) (r_gd_passes hg) ?_
      refine V_iload_1 d_hs_pass_23 ?_
      refine V_aald d_hs_pass_24 (is_gd_passes hg) (by omega) (by omega) (r_gd_passesrow hg (by omega)) ?_
      refine V_iload_2 d_hs_pass_25 ?_
      refine V_iald d_hs_pass_26 (is_gd_passes_row hg (by omega)) (by omega) (by omega) ?_
      refine V_goto 31 d_hs_pass_27 (by decide) ?_
      refine V_ireturn d_hs_pass_31 (hR _ _ ?_)
      refine ⟨?_, rfl⟩
      unfold S_pass
      first | (rw [if_neg (by omega)]; done) | (rw [if_pos (by omega)]; exact (hG.pp hF.1 (by omega) (by omega)).1.1)
theorem hs_price (hS : Cst g f A) (hF : Wf A) {a b : Int} (ha : -2147483648 ≤ a ∧ a < 2147483648) (hb : -2147483648 ≤ b ∧ b < 2147483648) : OkI D m_hs_price [vr D 0, vi a, vi b] (Zg g h) f (fun x f' => x = S_price A a b ∧ f' = f) := by
  have hn := hF.nn
  have hS' := hS
  obtain ⟨hg, hG, hH, hT⟩ := hS'
  refine OkI_of (L0 := [vr D 0, vi a, vi b]) mi_hs_price rfl rfl (Nat.le_of_ble_eq_true rfl) (fun C hR => ?_)
  refine V_aload_0 d_hs_price_0 ?_
  refine V_iload_1 d_hs_price_1 ?_
  refine V_cvI1 d_hs_price_2 ml_hs_149 mv_hs_isShade (by decide) (Nat.le_of_ble_eq_true rfl) is_hs (ok_isShade hS hF ha) ?_
  rintro x2 f2 ⟨hx2, e2⟩
  rw [e2]; clear e2 f2
  refine V_if_eq 30 d_hs_price_5 (by decide) (by omega) (fun c5 => ?_) (fun c5 => ?_)
  · skip
    refine V_iconst (-1) d_hs_price_30 ?_
    refine V_ireturn d_hs_price_31 (hR _ _ ?_)
    refine ⟨?_, rfl⟩
    unfold S_price
    first | (rw [if_neg (by omega)]; done) | (rw [if_pos (by omega)]; exact (hG.pp hF.1 (by omega) (by omega)).1.2)
  · skip
    refine V_aload_0 d_hs_price_8 ?_
    refine V_iload_2 d_hs_price_9 ?_
    refine V_cvI1 d_hs_price_10 ml_hs_136 mv_hs_isSighting (by decide) (Nat.le_of_ble_eq_true rfl) is_hs (ok_isSighting hS hF hb) ?_
    rintro x10 f2 ⟨hx10, e2⟩
    rw [e2]; clear e2 f2
    refine V_if_eq 30 d_hs_price_13 (by decide) (by omega) (fun c13 => ?_) (fun c13 => ?_)
    · skip
      refine V_iconst (-1) d_hs_price_30 ?_
      refine V_ireturn d_hs_price_31 (hR _ _ ?_)
      refine ⟨?_, rfl⟩
      unfold S_price
      first | (rw [if_neg (by omega)]; done) | (rw [if_pos (by omega)]; exact (hG.pp hF.1 (by omega) (by omega)).1.2)
    · skip
      refine V_aload_0 d_hs_price_16 ?_
      refine V_getR d_hs_price_17 fl_hs_57 is_hs (r_hs_now hg) ?_
      refine V_getR d_hs_price_20 fl_hs_155 (is_gd hg) (r_gd_prices hg) ?_
      refine V_iload_1 d_hs_price_23 ?_
      refine V_aald d_hs_price_24 (is_gd_prices hg) (by omega) (by omega) (r_gd_pricesrow hg (by omega)) ?_
      refine V_iload_2 d_hs_price_25 ?_
      refine V_iald d_hs_price_26 (is_gd_prices_row hg (by omega)) (by omega) (by omega) ?_
      refine V_goto 31 d_hs_price_27 (by decide) ?_
      refine V_ireturn d_hs_price_31 (hR _ _ ?_)
      refine ⟨?_, rfl⟩
      unfold S_price
      first | (rw [if_neg (by omega)]; done) | (rw [if_pos (by omega)]; exact (hG.pp hF.1 (by omega) (by omega)).1.2)
theorem hs_canBe (hS : Cst g f A) (hF : Wf A) {a b : Int} (ha : -2147483648 ≤ a ∧ a < 2147483648) (hb : -2147483648 ≤ b ∧ b < 2147483648) : OkI D m_hs_canBe [vr D 0, vi a, vi b] (Zg g h) f (fun x f' => x = S_canBe A a b ∧ f' = f) := by
  have hn := hF.nn
  have hS' := hS
  obtain ⟨hg, hG, hH, hT⟩ := hS'
  refine OkI_of (L0 := [vr D 0, vi a, vi b]) mi_hs_canBe rfl rfl (Nat.le_of_ble_eq_true rfl) (fun C hR => ?_)
  refine V_aload_0 d_hs_canBe_0 ?_
  refine V_iload_1 d_hs_canBe_1 ?_
  refine V_cvI1 d_hs_canBe_2 ml_hs_136 mv_hs_isSighting (by decide) (Nat.le_of_ble_eq_true rfl) is_hs (ok_isSighting hS hF ha) ?_
  rintro x2 f2 ⟨hx2, e2⟩
  rw [e2]; clear e2 f2
  refine V_if_eq 21 d_hs_canBe_5 (by decide) (by omega) (fun c5 => ?_) (fun c5 => ?_)
  · skip
    refine V_iconst (-1) d_hs_canBe_21 ?_
    refine V_ireturn d_hs_canBe_22 (hR _ _ ?_)
    refine ⟨?_, rfl⟩
    unfold S_canBe; rw [if_neg (by omega)]
  · skip
    refine V_aload_0 d_hs_canBe_8 ?_
    refine V_iload_2 d_hs_canBe_9 ?_
    refine V_cvI1 d_hs_canBe_10 ml_hs_136 mv_hs_isSighting (by decide) (Nat.le_of_ble_eq_true rfl) is_hs (ok_isSighting hS hF hb) ?_
    rintro x10 f2 ⟨hx10, e2⟩
    rw [e2]; clear e2 f2
    refine V_if_eq 21 d_hs_canBe_13 (by decide) (by omega) (fun c13 => ?_) (fun c13 => ?_)
    · skip
      refine V_iconst (-1) d_hs_canBe_21 ?_
      refine V_ireturn d_hs_canBe_22 (hR _ _ ?_)
      refine ⟨?_, rfl⟩
      unfold S_canBe; rw [if_neg (by omega)]
    · skip
      refine V_iload_1 d_hs_canBe_16 ?_
      refine V_iload_2 d_hs_canBe_17 ?_
      refine V_icmp_ne 23 d_hs_canBe_18 (by decide) (by omega) (by omega) (fun c18 => ?_) (fun c18 => ?_)
      · skip
        refine V_aload_0 d_hs_canBe_23 ?_
        refine V_getR d_hs_canBe_24 fl_hs_57 is_hs (r_hs_now hg) ?_
        refine V_getR d_hs_canBe_27 fl_hs_171 (is_gd hg) (r_gd_meets hg) ?_
        refine V_iload_1 d_hs_canBe_30 ?_
        refine V_iald d_hs_canBe_31 (is_gd_meets hg) (by omega) (by omega) ?_
        refine V_iload_2 d_hs_canBe_32 ?_
        refine V_ishr d_hs_canBe_33 ?_
        refine V_iconst 1 d_hs_canBe_34 ?_
        refine V_iand d_hs_canBe_35 ?_
        refine V_ireturn d_hs_canBe_36 (hR _ _ ?_)
        refine ⟨?_, rfl⟩
        have e : S_canBe A a b = if can A a b then 1 else 0 := by unfold S_canBe; rw [if_pos (by omega)]
        have : decide (b < A 0 4 0) = true := by simp only [decide_eq_true_eq]; omega
        rw [e, hG.mt (by omega) (by omega), mB_bit _ (by omega), this]; rfl
      · skip
        refine V_iconst (-1) d_hs_canBe_21 ?_
        refine V_ireturn d_hs_canBe_22 (hR _ _ ?_)
        refine ⟨?_, rfl⟩
        unfold S_canBe; rw [if_neg (by omega)]
theorem hs_octet (hS : Cst g f A) (hF : Wf A) {k : Int} (hk : -2147483648 ≤ k ∧ k < 2147483648) : OkI D m_hs_octet [vr D 0, vi k] (Zg g h) f (fun x f' => x = S_octet A k ∧ f' = f) := by
  obtain ⟨hg, hG, hH, hT⟩ := hS
  have e := hT.2.2.2.2.2.1
  have hw := hF.2.2.2.2.2.2.2.1
  refine OkI_of (L0 := [vr D 0, vi k]) mi_hs_octet rfl rfl (Nat.le_of_ble_eq_true rfl) (fun C hR => ?_)
  refine V_iload_1 d_hs_octet_0 ?_
  refine V_if_lt 21 d_hs_octet_1 (by decide) (by omega) (fun c1 => ?_) (fun c1 => ?_)
  · skip
    refine V_iconst (-1) d_hs_octet_21 ?_
    refine V_ireturn d_hs_octet_22 (hR _ _ ?_)
    refine ⟨?_, rfl⟩
    unfold S_octet
    first | (rw [if_neg (by omega)]; done) | (rw [if_pos (by omega)]; exact hT.2.2.2.2.2.2 k (by omega) (by omega))
  · skip
    refine V_iload_1 d_hs_octet_4 ?_
    refine V_aload_0 d_hs_octet_5 ?_
    refine V_getI d_hs_octet_6 fl_hs_265 is_hs ?_
    refine V_icmp_ge 21 d_hs_octet_9 (by decide) (by omega) (by omega) (fun c9 => ?_) (fun c9 => ?_)
    · skip
      refine V_iconst (-1) d_hs_octet_21 ?_
      refine V_ireturn d_hs_octet_22 (hR _ _ ?_)
      refine ⟨?_, rfl⟩
      unfold S_octet
      first | (rw [if_neg (by omega)]; done) | (rw [if_pos (by omega)]; exact hT.2.2.2.2.2.2 k (by omega) (by omega))
    · skip
      refine V_aload_0 d_hs_octet_12 ?_
      refine V_getR d_hs_octet_13 fl_hs_46 is_hs r_hs_image ?_
      refine V_iload_1 d_hs_octet_16 ?_
      refine V_iald d_hs_octet_17 is_hs_image (by omega) (by omega) ?_
      refine V_goto 22 d_hs_octet_18 (by decide) ?_
      refine V_ireturn d_hs_octet_22 (hR _ _ ?_)
      refine ⟨?_, rfl⟩
      unfold S_octet
      first | (rw [if_neg (by omega)]; done) | (rw [if_pos (by omega)]; exact hT.2.2.2.2.2.2 k (by omega) (by omega))
theorem ok_letterOf {n k : Int} (hn : 0 ≤ n ∧ n < 1073741824) (hk : 0 ≤ k ∧ k ≤ 5) : OkI D m_tp_letterOf [vi n, vi k] (Zg g h) f (fun x f' => x = n / 32 ^ k.toNat % 32 ∧ f' = f) := by
  refine OkI_of (L0 := [vi n, vi k]) mi_tp_letterOf rfl rfl (Nat.le_of_ble_eq_true rfl) (fun C hR => ?_)
  refine V_iload_0 d_tp_letterOf_0 ?_
  refine V_iconst 5 d_tp_letterOf_1 ?_
  refine V_iload_1 d_tp_letterOf_2 ?_
  refine V_imul d_tp_letterOf_3 ?_
  refine V_ishr d_tp_letterOf_4 ?_
  refine V_bipush 31 d_tp_letterOf_5 (by decide) ?_
  refine V_iand d_tp_letterOf_7 ?_
  refine V_ireturn d_tp_letterOf_8 (hR _ _ ?_)
  refine ⟨?_, rfl⟩
  obtain ⟨a, rfl⟩ := Int.eq_ofNat_of_zero_le hn.1
  have e1 : Int32.ofInt (q_shr (a : Int) (5 * k)) = nI (a / 2 ^ (5 * k).toNat) := by
    unfold q_shr
    rw [Int32.ofInt_toInt, show Int32.ofInt (a : Int) = nI a from Int32.ofInt_eq_ofNat]
    refine pk_shrN (by omega) _ _ ?_
    rcases (show k = 0 ∨ k = 1 ∨ k = 2 ∨ k = 3 ∨ k = 4 ∨ k = 5 by omega) with rfl | rfl | rfl | rfl | rfl | rfl <;> rfl
  unfold q_and
  rw [e1, show Int32.ofInt 31 = 31 from rfl, pk_andN (Nat.lt_of_le_of_lt (Nat.div_le_self _ _) (by omega)) 5 (by decide), nI_toInt (by omega)]
  rcases (show k = 0 ∨ k = 1 ∨ k = 2 ∨ k = 3 ∨ k = 4 ∨ k = 5 by omega) with rfl | rfl | rfl | rfl | rfl | rfl <;> simp <;> omega
theorem hs_letter (hS : Cst g f A) (hF : Wf A) {i w k : Int} (hi : -2147483648 ≤ i ∧ i < 2147483648) (hw : -2147483648 ≤ w ∧ w < 2147483648) (hk : -2147483648 ≤ k ∧ k < 2147483648) : OkI D m_hs_letter [vr D 0, vi i, vi w, vi k] (Zg g h) f (fun x f' => x = S_letter A i w k ∧ f' = f) := by
  have hn := hF.nn
  obtain ⟨hg, hG, hH, hT⟩ := hS
  have h8 : 0 ≤ i → i ≤ 3 → A 0 i 0 ≤ 8 := by
    intro a b
    rcases (show i = 0 ∨ i = 1 ∨ i = 2 ∨ i = 3 by omega) with rfl | rfl | rfl | rfl <;> omega
  refine OkI_of (L0 := [vr D 0, vi i, vi w, vi k]) mi_hs_letter rfl rfl (Nat.le_of_ble_eq_true rfl) (fun C hR => ?_)
  refine V_iload_1 d_hs_letter_0 ?_
  refine V_if_lt 30 d_hs_letter_1 (by decide) (by omega) (fun c1 => ?_) (fun c1 => ?_)
  · skip
    refine V_iconst (-1) d_hs_letter_30 ?_
    refine V_ireturn d_hs_letter_31 (hR _ _ ?_)
    refine ⟨?_, rfl⟩
    unfold S_letter; rw [if_neg (by omega)]
  · skip
    refine V_iload_1 d_hs_letter_4 ?_
    refine V_iconst 3 d_hs_letter_5 ?_
    refine V_icmp_gt 30 d_hs_letter_6 (by decide) (by omega) (by omega) (fun c6 => ?_) (fun c6 => ?_)
    · skip
      refine V_iconst (-1) d_hs_letter_30 ?_
      refine V_ireturn d_hs_letter_31 (hR _ _ ?_)
      refine ⟨?_, rfl⟩
      unfold S_letter; rw [if_neg (by omega)]
    · skip
      refine V_aload_0 d_hs_letter_9 ?_
      refine V_getR d_hs_letter_10 fl_hs_57 is_hs (r_hs_now hg) ?_
      refine V_iload_1 d_hs_letter_13 ?_
      refine V_iload_2 d_hs_letter_14 ?_
      refine V_cvI2 d_hs_letter_15 ml_hs_112 mv_gd_isThere (by decide) (Nat.le_of_ble_eq_true rfl) (is_gd hg) (ok_isThere hg hG hF.1 (by omega) (by omega)) ?_
      rintro x15 f2 ⟨hx15, e2⟩
      rw [e2]; clear e2 f2
      refine V_if_eq 30 d_hs_letter_18 (by decide) (by omega) (fun c18 => ?_) (fun c18 => ?_)
      · skip
        refine V_iconst (-1) d_hs_letter_30 ?_
        refine V_ireturn d_hs_letter_31 (hR _ _ ?_)
        refine ⟨?_, rfl⟩
        unfold S_letter; rw [if_neg (by omega)]
      · skip
        refine V_iload_3 d_hs_letter_21 ?_
        refine V_if_lt 30 d_hs_letter_22 (by decide) (by omega) (fun c22 => ?_) (fun c22 => ?_)
        · skip
          refine V_iconst (-1) d_hs_letter_30 ?_
          refine V_ireturn d_hs_letter_31 (hR _ _ ?_)
          refine ⟨?_, rfl⟩
          unfold S_letter; rw [if_neg (by omega)]
        · skip
          refine V_iload_3 d_hs_letter_25 ?_
          refine V_iconst 5 d_hs_letter_26 ?_
          refine V_icmp_le 32 d_hs_letter_27 (by decide) (by omega) (by omega) (fun c27 => ?_) (fun c27 => ?_)
          · skip
            have h8 := h8 (by omega) (by omega)
            have e := hG.2.2.1 i w k (by omega) (by omega) (by omega) (by omega) (by omega) (by omega)
            refine V_aload_0 d_hs_letter_32 ?_
            refine V_getR d_hs_letter_33 fl_hs_57 is_hs (r_hs_now hg) ?_
            refine V_getR d_hs_letter_36 fl_hs_116 (is_gd hg) (r_gd_names hg) ?_
            refine V_iload_1 d_hs_letter_39 ?_
            refine V_aald d_hs_letter_40 (is_gd_names hg) (by omega) (by omega) (r_gd_namesrow hg (by omega)) ?_
            refine V_iload_2 d_hs_letter_41 ?_
            refine V_iald d_hs_letter_42 (is_gd_names_row hg (by omega)) (by omega) (by omega) ?_
            refine V_iload_3 d_hs_letter_43 ?_
            refine V_csI2 d_hs_letter_44 ml_hs_120 ms_tp_letterOf (by decide) (Nat.le_of_ble_eq_true rfl) (ok_letterOf e.1 (by omega)) ?_
            rintro _ f2 ⟨rfl, e2⟩
            rw [e2]; clear e2 f2
            refine V_ireturn d_hs_letter_47 (hR _ _ ?_)
            refine ⟨?_, rfl⟩
            unfold S_letter; rw [if_pos (by omega)]; exact e.2
          · skip
            refine V_iconst (-1) d_hs_letter_30 ?_
            refine V_ireturn d_hs_letter_31 (hR _ _ ?_)
            refine ⟨?_, rfl⟩
            unfold S_letter; rw [if_neg (by omega)]
theorem hs_trait (hS : Cst g f A) (hF : Wf A) {t who w : Int} (ht : -2147483648 ≤ t ∧ t < 2147483648) (hwho : -2147483648 ≤ who ∧ who < 2147483648) (hw : -2147483648 ≤ w ∧ w < 2147483648) : OkI D m_hs_trait [vr D 0, vi t, vi who, vi w] (Zg g h) f (fun x f' => x = S_trait A t who w ∧ f' = f) := by
  have hn := hF.nn
  obtain ⟨hg, hG, hH, hT⟩ := hS
  refine OkI_of (L0 := [vr D 0, vi t, vi who, vi w]) mi_hs_trait rfl rfl (Nat.le_of_ble_eq_true rfl) (fun C hR => ?_)
  refine V_aload_0 d_hs_trait_0 ?_
  refine V_getR d_hs_trait_1 fl_hs_57 is_hs (r_hs_now hg) ?_
  refine V_iconst 0 d_hs_trait_4 ?_
  refine V_iload_1 d_hs_trait_5 ?_
  refine V_cvI2 d_hs_trait_6 ml_hs_112 mv_gd_isThere (by decide) (Nat.le_of_ble_eq_true rfl) (is_gd hg) (ok_isThere hg hG hF.1 (by omega) (by omega)) ?_
  rintro x6 f2 ⟨hx6, e2⟩
  rw [e2]; clear e2 f2
  refine V_if_ne 14 d_hs_trait_9 (by decide) (by omega) (fun c9 => ?_) (fun c9 => ?_)
  · skip
    refine V_iload_3 d_hs_trait_14 ?_
    refine V_tsw 153 d_hs_trait_15 (by decide) (by omega) (fun c15 => ?_) (fun c15 => ?_)
    · skip
      refine V_iconst (-1) d_hs_trait_153 ?_
      refine V_ireturn d_hs_trait_154 (hR _ _ ?_)
      refine ⟨?_, rfl⟩
      unfold S_trait; rw [if_pos (by omega), if_neg (by omega), if_neg (by omega), if_neg (by omega), if_neg (by omega)]
    · rcases (show w = 0 ∨ w = 1 ∨ w = 2 ∨ w = 3 ∨ w = 4 by omega) with rfl | rfl | rfl | rfl | rfl
      · refine V_tsi 48 d_hs_trait_15 (by decide) (by decide) rfl (by decide) ?_
        refine V_iload_2 d_hs_trait_48 ?_
        refine V_iconst (-1) d_hs_trait_49 ?_
        refine V_icmp_ne 67 d_hs_trait_50 (by decide) (by omega) (by omega) (fun c50 => ?_) (fun c50 => ?_)
        · skip
          refine V_iconst (-1) d_hs_trait_67 ?_
          refine V_ireturn d_hs_trait_68 (hR _ _ ?_)
          refine ⟨?_, rfl⟩
          unfold S_trait; rw [if_pos (by omega)]
          first | (rw [if_neg (by omega), if_neg (by omega), if_neg (by omega), if_neg (by omega)]; done) | (rw [if_pos (by omega)]; exact hG.2.2.2.1 t _ (by omega) (by omega) (by omega) (by omega))
        · skip
          refine V_aload_0 d_hs_trait_53 ?_
          refine V_getR d_hs_trait_54 fl_hs_57 is_hs (r_hs_now hg) ?_
          refine V_getR d_hs_trait_57 fl_hs_124 (is_gd hg) (r_gd_shows hg) ?_
          refine V_iload_1 d_hs_trait_60 ?_
          refine V_aald d_hs_trait_61 (is_gd_shows hg) (by omega) (by omega) (r_gd_showsrow hg (by omega)) ?_
          refine V_iload_3 d_hs_trait_62 ?_
          refine V_iald d_hs_trait_63 (is_gd_shows_row hg (by omega)) (by omega) (by omega) ?_
          refine V_goto 68 d_hs_trait_64 (by decide) ?_
          refine V_ireturn d_hs_trait_68 (hR _ _ ?_)
          refine ⟨?_, rfl⟩
          unfold S_trait; rw [if_pos (by omega)]
          first | (rw [if_neg (by omega), if_neg (by omega), if_neg (by omega), if_neg (by omega)]; done) | (rw [if_pos (by omega)]; exact hG.2.2.2.1 t _ (by omega) (by omega) (by omega) (by omega))
      · refine V_tsi 48 d_hs_trait_15 (by decide) (by decide) rfl (by decide) ?_
        refine V_iload_2 d_hs_trait_48 ?_
        refine V_iconst (-1) d_hs_trait_49 ?_
        refine V_icmp_ne 67 d_hs_trait_50 (by decide) (by omega) (by omega) (fun c50 => ?_) (fun c50 => ?_)
        · skip
          refine V_iconst (-1) d_hs_trait_67 ?_
          refine V_ireturn d_hs_trait_68 (hR _ _ ?_)
          refine ⟨?_, rfl⟩
          unfold S_trait; rw [if_pos (by omega)]
          first | (rw [if_neg (by omega), if_neg (by omega), if_neg (by omega), if_neg (by omega)]; done) | (rw [if_pos (by omega)]; exact hG.2.2.2.1 t _ (by omega) (by omega) (by omega) (by omega))
        · skip
          refine V_aload_0 d_hs_trait_53 ?_
          refine V_getR d_hs_trait_54 fl_hs_57 is_hs (r_hs_now hg) ?_
          refine V_getR d_hs_trait_57 fl_hs_124 (is_gd hg) (r_gd_shows hg) ?_
          refine V_iload_1 d_hs_trait_60 ?_
          refine V_aald d_hs_trait_61 (is_gd_shows hg) (by omega) (by omega) (r_gd_showsrow hg (by omega)) ?_
          refine V_iload_3 d_hs_trait_62 ?_
          refine V_iald d_hs_trait_63 (is_gd_shows_row hg (by omega)) (by omega) (by omega) ?_
          refine V_goto 68 d_hs_trait_64 (by decide) ?_
          refine V_ireturn d_hs_trait_68 (hR _ _ ?_)
          refine ⟨?_, rfl⟩
          unfold S_trait; rw [if_pos (by omega)]
          first | (rw [if_neg (by omega), if_neg (by omega), if_neg (by omega), if_neg (by omega)]; done) | (rw [if_pos (by omega)]; exact hG.2.2.2.1 t _ (by omega) (by omega) (by omega) (by omega))
      · refine V_tsi 69 d_hs_trait_15 (by decide) (by decide) rfl (by decide) ?_
        refine V_aload_0 d_hs_trait_69 ?_
        refine V_getR d_hs_trait_70 fl_hs_57 is_hs (r_hs_now hg) ?_
        refine V_iconst 1 d_hs_trait_73 ?_
        refine V_iload_2 d_hs_trait_74 ?_
        refine V_cvI2 d_hs_trait_75 ml_hs_112 mv_gd_isThere (by decide) (Nat.le_of_ble_eq_true rfl) (is_gd hg) (ok_isThere hg hG hF.1 (by omega) (by omega)) ?_
        rintro x75 f2 ⟨hx75, e2⟩
        rw [e2]; clear e2 f2
        refine V_if_eq 95 d_hs_trait_78 (by decide) (by omega) (fun c78 => ?_) (fun c78 => ?_)
        · skip
          refine V_iconst (-1) d_hs_trait_95 ?_
          refine V_ireturn d_hs_trait_96 (hR _ _ ?_)
          refine ⟨?_, rfl⟩
          unfold S_trait; rw [if_pos (by omega)]
          first | (rw [if_neg (by omega), if_neg (by omega), if_neg (by omega), if_neg (by omega)]; done) | (rw [if_neg (by omega), if_pos (by omega)]; exact hG.2.2.2.2.1 who t (by omega) (by omega) (by omega) (by omega))
        · skip
          refine V_aload_0 d_hs_trait_81 ?_
          refine V_getR d_hs_trait_82 fl_hs_57 is_hs (r_hs_now hg) ?_
          refine V_getR d_hs_trait_85 fl_hs_127 (is_gd hg) (r_gd_looks hg) ?_
          refine V_iload_2 d_hs_trait_88 ?_
          refine V_aald d_hs_trait_89 (is_gd_looks hg) (by omega) (by omega) (r_gd_looksrow hg (by omega)) ?_
          refine V_iload_1 d_hs_trait_90 ?_
          refine V_iald d_hs_trait_91 (is_gd_looks_row hg (by omega)) (by omega) (by omega) ?_
          refine V_goto 96 d_hs_trait_92 (by decide) ?_
          refine V_ireturn d_hs_trait_96 (hR _ _ ?_)
          refine ⟨?_, rfl⟩
          unfold S_trait; rw [if_pos (by omega)]
          first | (rw [if_neg (by omega), if_neg (by omega), if_neg (by omega), if_neg (by omega)]; done) | (rw [if_neg (by omega), if_pos (by omega)]; exact hG.2.2.2.2.1 who t (by omega) (by omega) (by omega) (by omega))
      · refine V_tsi 97 d_hs_trait_15 (by decide) (by decide) rfl (by decide) ?_
        refine V_aload_0 d_hs_trait_97 ?_
        refine V_getR d_hs_trait_98 fl_hs_57 is_hs (r_hs_now hg) ?_
        refine V_iconst 2 d_hs_trait_101 ?_
        refine V_iload_2 d_hs_trait_102 ?_
        refine V_cvI2 d_hs_trait_103 ml_hs_112 mv_gd_isThere (by decide) (Nat.le_of_ble_eq_true rfl) (is_gd hg) (ok_isThere hg hG hF.1 (by omega) (by omega)) ?_
        rintro x103 f2 ⟨hx103, e2⟩
        rw [e2]; clear e2 f2
        refine V_if_eq 123 d_hs_trait_106 (by decide) (by omega) (fun c106 => ?_) (fun c106 => ?_)
        · skip
          refine V_iconst (-1) d_hs_trait_123 ?_
          refine V_ireturn d_hs_trait_124 (hR _ _ ?_)
          refine ⟨?_, rfl⟩
          unfold S_trait; rw [if_pos (by omega)]
          first | (rw [if_neg (by omega), if_neg (by omega), if_neg (by omega), if_neg (by omega)]; done) | (rw [if_neg (by omega), if_neg (by omega), if_pos (by omega)]; exact (hG.2.2.2.2.2.1 who t (by omega) (by omega) (by omega) (by omega)).1)
        · skip
          refine V_aload_0 d_hs_trait_109 ?_
          refine V_getR d_hs_trait_110 fl_hs_57 is_hs (r_hs_now hg) ?_
          refine V_getR d_hs_trait_113 fl_hs_130 (is_gd hg) (r_gd_owns hg) ?_
          refine V_iload_2 d_hs_trait_116 ?_
          refine V_aald d_hs_trait_117 (is_gd_owns hg) (by omega) (by omega) (r_gd_ownsrow hg (by omega)) ?_
          refine V_iload_1 d_hs_trait_118 ?_
          refine V_iald d_hs_trait_119 (is_gd_owns_row hg (by omega)) (by omega) (by omega) ?_
          refine V_goto 124 d_hs_trait_120 (by decide) ?_
          refine V_ireturn d_hs_trait_124 (hR _ _ ?_)
          refine ⟨?_, rfl⟩
          unfold S_trait; rw [if_pos (by omega)]
          first | (rw [if_neg (by omega), if_neg (by omega), if_neg (by omega), if_neg (by omega)]; done) | (rw [if_neg (by omega), if_neg (by omega), if_pos (by omega)]; exact (hG.2.2.2.2.2.1 who t (by omega) (by omega) (by omega) (by omega)).1)
      · refine V_tsi 125 d_hs_trait_15 (by decide) (by decide) rfl (by decide) ?_
        refine V_aload_0 d_hs_trait_125 ?_
        refine V_getR d_hs_trait_126 fl_hs_57 is_hs (r_hs_now hg) ?_
        refine V_iconst 2 d_hs_trait_129 ?_
        refine V_iload_2 d_hs_trait_130 ?_
        refine V_cvI2 d_hs_trait_131 ml_hs_112 mv_gd_isThere (by decide) (Nat.le_of_ble_eq_true rfl) (is_gd hg) (ok_isThere hg hG hF.1 (by omega) (by omega)) ?_
        rintro x131 f2 ⟨hx131, e2⟩
        rw [e2]; clear e2 f2
        refine V_if_eq 151 d_hs_trait_134 (by decide) (by omega) (fun c134 => ?_) (fun c134 => ?_)
        · skip
          refine V_iconst (-1) d_hs_trait_151 ?_
          refine V_ireturn d_hs_trait_152 (hR _ _ ?_)
          refine ⟨?_, rfl⟩
          unfold S_trait; rw [if_pos (by omega)]
          first | (rw [if_neg (by omega), if_neg (by omega), if_neg (by omega), if_neg (by omega)]; done) | (rw [if_neg (by omega), if_neg (by omega), if_neg (by omega), if_pos (by omega)]; exact (hG.2.2.2.2.2.1 who t (by omega) (by omega) (by omega) (by omega)).2)
        · skip
          refine V_aload_0 d_hs_trait_137 ?_
          refine V_getR d_hs_trait_138 fl_hs_57 is_hs (r_hs_now hg) ?_
          refine V_getR d_hs_trait_141 fl_hs_133 (is_gd hg) (r_gd_fakes hg) ?_
          refine V_iload_2 d_hs_trait_144 ?_
          refine V_aald d_hs_trait_145 (is_gd_fakes hg) (by omega) (by omega) (r_gd_fakesrow hg (by omega)) ?_
          refine V_iload_1 d_hs_trait_146 ?_
          refine V_iald d_hs_trait_147 (is_gd_fakes_row hg (by omega)) (by omega) (by omega) ?_
          refine V_goto 152 d_hs_trait_148 (by decide) ?_
          refine V_ireturn d_hs_trait_152 (hR _ _ ?_)
          refine ⟨?_, rfl⟩
          unfold S_trait; rw [if_pos (by omega)]
          first | (rw [if_neg (by omega), if_neg (by omega), if_neg (by omega), if_neg (by omega)]; done) | (rw [if_neg (by omega), if_neg (by omega), if_neg (by omega), if_pos (by omega)]; exact (hG.2.2.2.2.2.1 who t (by omega) (by omega) (by omega) (by omega)).2)
  · skip
    refine V_iconst (-1) d_hs_trait_12 ?_
    refine V_ireturn d_hs_trait_13 (hR _ _ ?_)
    refine ⟨?_, rfl⟩
    unfold S_trait; rw [if_neg (by omega)]
end HS1
