/-! the reference reads roads -/
def rsy (S : q_F) : Prop := ∀ a b, 0 ≤ a → a < 8 → 0 ≤ b → b < 8 → S (37 + a) b = S (37 + b) a
section RN7
variable {D : q_D} {f f' f'' S S' : q_F} {A : q_As} {g h : Int} {T : Int → Int} {N p e : Int} {L : List Int}
theorem addR_ne {a b v j i : Int} (ha : 0 ≤ a ∧ a < 8) (hb : 0 ≤ b ∧ b < 8) (h : ¬ (j = 1 ∧ i = 6) ∧ ¬ (37 ≤ j ∧ j < 45)) : addR S a b v j i = S j i := by
  unfold addR; rw [q_up_ne (by omega), q_up_ne (by omega), q_up_ne (by omega)]
theorem addR_at {a b v x y : Int} (ha : 0 ≤ a ∧ a < 8) (hb : 0 ≤ b ∧ b < 8) (hx : 0 ≤ x ∧ x < 8) : addR S a b v (37 + x) y = if (x = a ∧ y = b) ∨ (x = b ∧ y = a) then min v (S (37 + a) b) else S (37 + x) y := by
  unfold addR
  rw [q_up_ne (by omega)]
  by_cases h1 : x = b ∧ y = a
  · rw [if_pos (Or.inr h1), h1.1, h1.2, q_up_eq]
  · rw [q_up_ne (by omega)]
    by_cases h2 : x = a ∧ y = b
    · rw [if_pos (Or.inl h2), h2.1, h2.2, q_up_eq]
    · rw [if_neg (by omega), q_up_ne (by omega)]
theorem mE.road (hE : mE f S L) (hW : pW S) {F : q_F} {a b v : Int} (ha : 0 ≤ a ∧ a < 8) (hb : 0 ≤ b ∧ b < 8) (fr : ∀ j i, ¬ (j = 219 ∧ (i = 2 ∨ i = 4 ∨ i = 5 ∨ i = 6 ∨ i = 34)) → ¬ j = 253 → ¬ (j = 246 ∧ i = 4) → F j i = f j i) (hc : F 246 4 = S 1 6 + 1) (hr : ∀ x y, 0 ≤ x → x < 8 → 0 ≤ y → y < 8 → F 253 (8 * x + y) = addR S a b v (37 + x) y) : mE F (addR S a b v) L := by
  have h0 := hW.1
  have h1 := hW.2.1
  have h2 := hW.2.2.1
  have cn : ∀ i, ¬ i = 6 → addR S a b v 1 i = S 1 i := fun i hi => addR_ne ha hb (by omega)
  have an : ∀ j i, ¬ (j = 1 ∧ i = 6) ∧ ¬ (37 ≤ j ∧ j < 45) → addR S a b v j i = S j i := fun j i h => addR_ne ha hb h
  obtain ⟨m1, m2, m3, m4, m5, m6, m7, m8, m9, m10⟩ := hE
  refine ⟨?_, ?_, ?_, ?_, ?_, ?_, ?_, ?_, ?_, ?_⟩
  · refine ⟨fun k h1 h2 => ?_, fun k w h1 h2 h3 h4 => ?_⟩
    · rw [fr _ _ (by omega) (by omega) (by omega), cn _ (by omega)]; exact m1.1 k h1 h2
    · rw [cn _ (by omega)] at h4
      rw [fr _ _ (by omega) (by omega) (by omega), an _ _ (by omega)]; exact m1.2 k w h1 h2 h3 h4
  · refine ⟨?_, ?_, ?_, ?_, ?_⟩
    · rw [hc]; unfold addR; rw [q_up_eq]
    · rw [fr _ _ (by decide) (by decide) (by decide), cn _ (by decide)]; exact m2.2.1
    · rw [fr _ _ (by decide) (by decide) (by decide), cn _ (by decide)]; exact m2.2.2.1
    · rw [fr _ _ (by decide) (by decide) (by decide), an _ _ (by decide)]; exact m2.2.2.2.1
    · rw [fr _ _ (by decide) (by decide) (by decide), an _ _ (by decide)]; exact m2.2.2.2.2
  · exact m3.fr (fun k => fr _ _ (by omega) (by omega) (by omega)) ⟨cn _ (by decide), fun t w a b => an _ _ (by omega)⟩
  · exact m4.fr (fun k => fr _ _ (by omega) (by omega) (by omega)) ⟨cn _ (by decide), cn _ (by decide), fun t w a b => an _ _ (by omega)⟩
  · exact m5.fr (fun k => ⟨fr _ _ (by omega) (by omega) (by omega), fr _ _ (by omega) (by omega) (by omega)⟩) ⟨cn _ (by decide), cn _ (by decide), fun t w a b => ⟨an _ _ (by omega), an _ _ (by omega)⟩⟩
  · exact m6.fr (fun k => fr _ _ (by omega) (by omega) (by omega)) ⟨cn _ (by decide), fun t => an _ _ (by omega)⟩
  · exact hr
  · exact m8.fr (fun k => fr _ _ (by omega) (by omega) (by omega)) ⟨cn _ (by decide), fun t w a b => an _ _ (by omega)⟩
  · exact m9.fr (fun k => ⟨fr _ _ (by omega) (by omega) (by omega), fr _ _ (by omega) (by omega) (by omega), fr _ _ (by omega) (by omega) (by omega)⟩) ⟨cn _ (by decide), fun t => ⟨an _ _ (by omega), an _ _ (by omega)⟩⟩
  · exact ⟨by rw [fr _ _ (by decide) (by decide) (by decide)]; exact m10.1, fun k a => by rw [fr _ _ (by omega) (by omega) (by omega)]; exact m10.2 k a⟩
theorem ok_roadTold (hT : mpS f T N (.inr (p, e))) (hw : mW f) (hE : mE f S L) (hW : pW S) (hsy : rsy S) {w : Int} : OkV D m_mo_roadTold [vr D 219, vi w] (Zg g h) f (fun f' => mP f f' T N (if S 1 6 < 20 then lf L (sRoad S T N p e) else .inl (5, w))) := by
  have hcn := hW.2.2.2.2.2.2.1
  have hc4 := hE.2.1.1
  refine OkV_of (L0 := [vr D 219, vi w, vu, vu, vu]) mi_mo_roadTold rfl rfl (Nat.le_of_ble_eq_true rfl) (fun C hR => ?_)
  by_cases hc : S 1 6 = 20
  · rw [if_neg (by omega)] at hR
    refine V_aload_0 d_mo_roadTold_0 ?_
    refine V_iconst 4 d_mo_roadTold_1 ?_
    refine V_bipush 20 d_mo_roadTold_2 (by decide) ?_
    refine V_iload_1 d_mo_roadTold_4 ?_
    refine V_cvI3 d_mo_roadTold_5 ml_mo_267 mv_mo_isFull (by decide) (Nat.le_of_ble_eq_true rfl) is_mo (ok_isFull hT (by decide) (by decide) (by omega)) ?_
    rintro x F (⟨rfl, h1, t1, k1⟩ | ⟨rfl, h1, e1⟩)
    rotate_left
    exact absurd (hc4.trans hc) h1
    refine V_if_eq 12 d_mo_roadTold_8 (by decide) (by omega) (fun c8 => by omega) (fun c8 => ?_)
    refine V_return d_mo_roadTold_11 (hR _ ?_)
    exact ⟨k1.z, t1⟩
  · rw [if_pos (by omega)] at hR
    have bad : ∀ (e0 : Int × Int) (a b : Int) (F : q_F), sRoad S T N p e = .inl e0 → mpS F T N (.inl e0) → mK f F → V D C m_mo_roadTold 45 [vr D 219, vi w, vi a, vi b, vu] [] (Zg g h) F := by
      intro e0 a b F hr t1 k1
      rw [hr] at hR
      refine V_aload_0 d_mo_roadTold_45 ?_
      refine V_iconst 1 d_mo_roadTold_46 ?_
      refine V_bipush 9 d_mo_roadTold_47 (by decide) ?_
      refine V_cvI2 d_mo_roadTold_49 ml_mo_256 mv_mo_number (by decide) (Nat.le_of_ble_eq_true rfl) is_mo (ok_number t1 (by decide) (by decide)) ?_
      rintro x F2 ⟨t2, k2, x2, -⟩
      have t2 : mpS F2 T N (.inl e0) := t2
      have b2 := t2.2.2.2
      refine V_istore_4 d_mo_roadTold_52 rfl ?_
      refine V_aload_0 d_mo_roadTold_54 ?_
      refine V_getI d_mo_roadTold_55 fl_mo_185 is_mo ?_
      rw [b2.1]
      refine V_if_eq 62 d_mo_roadTold_58 (by decide) (by omega) (fun c58 => by omega) (fun c58 => ?_)
      refine V_return d_mo_roadTold_61 (hR _ ?_)
      exact ⟨(k1.tr k2).z, t2⟩
    have bad2 : ∀ (e0 : Int × Int) (a b : Int) (F : q_F), sRoad S T N p e = .inl e0 → mpS F T N (.inl e0) → mK f F → V D C m_mo_roadTold 24 [vr D 219, vi w, vi a, vi b, vu] [] (Zg g h) F := by
      intro e0 a b F hr t1 k1
      have b1 := t1.2.2.2
      refine V_aload_0 d_mo_roadTold_24 ?_
      refine V_getI d_mo_roadTold_25 fl_mo_185 is_mo ?_
      rw [b1.1]
      refine V_if_ne 45 d_mo_roadTold_28 (by decide) (by omega) (fun c28 => ?_) (fun c28 => by omega)
      exact bad e0 a b F hr t1 k1
    have good : ∀ (a b q d : Int) (F : q_F), (0 ≤ a ∧ a < 8) → (0 ≤ b ∧ b < 8) → ¬ a = b → sRoad S T N p e = sRoad3 S T N a b q d → mpS F T N (.inr (q, d)) → mK f F → V D C m_mo_roadTold 45 [vr D 219, vi w, vi a, vi b, vu] [] (Zg g h) F := by
      intro a b q d F ha hb hab hr t1 k1
      unfold sRoad3 at hr
      have hv := hW.2.2.2.2.2.2.2.2 a b ha.1 ha.2 hb.1 hb.2
      have hsab := hsy a b ha.1 ha.2 hb.1 hb.2
      cases hl : l_num T N 1 9 q d with
      | inl e0 =>
        rw [hl] at hr
        have hr : sRoad S T N p e = .inl e0 := hr
        rw [hr] at hR
        refine V_aload_0 d_mo_roadTold_45 ?_
        refine V_iconst 1 d_mo_roadTold_46 ?_
        refine V_bipush 9 d_mo_roadTold_47 (by decide) ?_
        refine V_cvI2 d_mo_roadTold_49 ml_mo_256 mv_mo_number (by decide) (Nat.le_of_ble_eq_true rfl) is_mo (ok_number t1 (by decide) (by decide)) ?_
        rintro x F2 ⟨t2, k2, x2, -⟩
        have t2 : mpS F2 T N (.inl e0) := by
          have t3 : mpS F2 T N (pst (l_num T N 1 9 q d)) := t2
          rw [hl] at t3; exact t3
        have b2 := t2.2.2.2
        refine V_istore_4 d_mo_roadTold_52 rfl ?_
        refine V_aload_0 d_mo_roadTold_54 ?_
        refine V_getI d_mo_roadTold_55 fl_mo_185 is_mo ?_
        rw [b2.1]
        refine V_if_eq 62 d_mo_roadTold_58 (by decide) (by omega) (fun c58 => by omega) (fun c58 => ?_)
        refine V_return d_mo_roadTold_61 (hR _ ?_)
        exact ⟨(k1.tr k2).z, t2⟩
      | inr u =>
        obtain ⟨v, q', d'⟩ := u
        rw [hl] at hr
        have hr : sRoad S T N p e = .inr (addR S a b v, q', d') := hr
        rw [hr] at hR
        have done : ∀ G F2 : q_F, mK f F2 → mpS F2 T N (.inr (q', d')) → (∀ j i, ¬ j = 253 → ¬ (j = 246 ∧ i = 4) → G j i = F2 j i) → (∀ i, 64 ≤ i → G 253 i = F2 253 i) → G 246 4 = S 1 6 + 1 → (∀ x y, 0 ≤ x → x < 8 → 0 ≤ y → y < 8 → G 253 (8 * x + y) = addR S a b v (37 + x) y) → mP f G T N (lf L (.inr (addR S a b v, q', d'))) := fun G F2 k2 t2 h1 h2 h3 h4 => by
          refine ⟨fun j i hn => ?_, t2.fr (fun j i hji => h1 j i (by omega) (by omega)), hE.road hW ha hb (fun j i x y z => by rw [h1 j i y z]; exact k2 j i x) h3 h4⟩
          by_cases hj : j = 253
          · rw [hj] at hn; rw [hj, h2 i (Int.not_lt.mp (fun u => hn (rd253 u)))]; exact k2 _ _ (by omega)
          · rw [h1 j i hj (fun u => hn (by obtain ⟨rfl, rfl⟩ := u; exact rd246 (by omega)))]; exact k2 j i (fun u => hn (rdx u))
        have hro := hE.2.2.2.2.2.2.1
        refine V_aload_0 d_mo_roadTold_45 ?_
        refine V_iconst 1 d_mo_roadTold_46 ?_
        refine V_bipush 9 d_mo_roadTold_47 (by decide) ?_
        refine V_cvI2 d_mo_roadTold_49 ml_mo_256 mv_mo_number (by decide) (Nat.le_of_ble_eq_true rfl) is_mo (ok_number t1 (by decide) (by decide)) ?_
        rintro x F2 ⟨t2, k2, x2, x3⟩
        have x3 : x = v := x3 v q' d' hl
        have t2 : mpS F2 T N (.inr (q', d')) := by
          have t3 : mpS F2 T N (pst (l_num T N 1 9 q d)) := t2
          rw [hl] at t3; exact t3
        have b2 := t2.2.2.2
        have k3 := k1.tr k2
        have c4 : F2 246 4 = S 1 6 := by rw [k3 _ _ (by decide)]; exact hc4
        have cab : F2 253 (8 * a + b) = S (37 + a) b := by rw [k3 _ _ (by omega)]; exact hro a b ha.1 ha.2 hb.1 hb.2
        refine V_istore_4 d_mo_roadTold_52 rfl ?_
        refine V_aload_0 d_mo_roadTold_54 ?_
        refine V_getI d_mo_roadTold_55 fl_mo_185 is_mo ?_
        rw [b2.1]
        refine V_if_eq 62 d_mo_roadTold_58 (by decide) (by omega) (fun c58 => ?_) (fun c58 => by omega)
        refine V_aload_0 d_mo_roadTold_62 ?_
        refine V_getR d_mo_roadTold_63 fl_mo_93 is_mo r_mo_many ?_
        refine V_iconst 4 d_mo_roadTold_66 ?_
        refine V_dup2 d_mo_roadTold_67 rfl rfl ?_
        refine V_iald d_mo_roadTold_68 is_mo_many (by omega) (by omega) ?_
        rw [c4]
        refine V_iconst 1 d_mo_roadTold_69 ?_
        refine V_iadd d_mo_roadTold_70 ?_
        refine V_iast d_mo_roadTold_71 is_mo_many (by omega) (by omega) ?_
        refine V_iload_4 d_mo_roadTold_72 ?_
        refine V_aload_0 d_mo_roadTold_74 ?_
        refine V_getR d_mo_roadTold_75 fl_mo_115 is_mo r_mo_roads ?_
        refine V_bipush 8 d_mo_roadTold_78 (by decide) ?_
        refine V_iload_2 d_mo_roadTold_80 ?_
        refine V_imul d_mo_roadTold_81 ?_
        refine V_iload_3 d_mo_roadTold_82 ?_
        refine V_iadd d_mo_roadTold_83 ?_
        refine V_iald d_mo_roadTold_84 is_mo_roads (by omega) (by omega) ?_
        rw [q_up_ne (by omega), cab]
        refine V_icmp_lt 89 d_mo_roadTold_85 (by decide) (by omega) (by omega) (fun c85 => ?_) (fun c85 => ?_)
        · skip
          refine V_aload_0 d_mo_roadTold_89 ?_
          refine V_getR d_mo_roadTold_90 fl_mo_115 is_mo r_mo_roads ?_
          refine V_bipush 8 d_mo_roadTold_93 (by decide) ?_
          refine V_iload_2 d_mo_roadTold_95 ?_
          refine V_imul d_mo_roadTold_96 ?_
          refine V_iload_3 d_mo_roadTold_97 ?_
          refine V_iadd d_mo_roadTold_98 ?_
          refine V_iload_4 d_mo_roadTold_99 ?_
          refine V_iast d_mo_roadTold_101 is_mo_roads (by omega) (by omega) ?_
          refine V_aload_0 d_mo_roadTold_102 ?_
          refine V_getR d_mo_roadTold_103 fl_mo_115 is_mo r_mo_roads ?_
          refine V_bipush 8 d_mo_roadTold_106 (by decide) ?_
          refine V_iload_3 d_mo_roadTold_108 ?_
          refine V_imul d_mo_roadTold_109 ?_
          refine V_iload_2 d_mo_roadTold_110 ?_
          refine V_iadd d_mo_roadTold_111 ?_
          refine V_iload_4 d_mo_roadTold_112 ?_
          refine V_iast d_mo_roadTold_114 is_mo_roads (by omega) (by omega) ?_
          refine V_return d_mo_roadTold_115 (hR _ ?_)
          refine done _ F2 k3 t2 (fun j i h1 h2 => by rw [q_up_ne (by omega), q_up_ne (by omega), q_up_ne (by omega)]) (fun i hi => by rw [q_up_ne (by omega), q_up_ne (by omega), q_up_ne (by omega)]) (by rw [q_up_ne (by omega), q_up_ne (by omega), q_up_eq]) (fun x' y h1 h2 h3 h4 => ?_)
          rw [addR_at ha hb ⟨h1, h2⟩]
          by_cases u1 : x' = b ∧ y = a
          · rw [if_pos (Or.inr u1), u1.1, u1.2, q_up_eq]; omega
          · by_cases u2 : x' = a ∧ y = b
            · rw [if_pos (Or.inl u2), u2.1, u2.2, q_up_ne (by omega), q_up_eq]; omega
            · rw [if_neg (by omega), q_up_ne (by omega), q_up_ne (by omega), q_up_ne (by omega), k3 _ _ (by omega)]; exact hro x' y h1 h2 h3 h4
        · skip
          refine V_return d_mo_roadTold_88 (hR _ ?_)
          refine done _ F2 k3 t2 (fun j i h1 h2 => q_up_ne (by omega)) (fun i hi => q_up_ne (by omega)) (q_up_eq _ _ _ _) (fun x' y h1 h2 h3 h4 => ?_)
          rw [q_up_ne (by omega), k3 _ _ (by omega), hro x' y h1 h2 h3 h4, addR_at ha hb ⟨h1, h2⟩]
          split
          · next hh =>
            rw [← x3]
            rcases hh with ⟨u1, u2⟩ | ⟨u1, u2⟩
            · rw [u1, u2]; omega
            · rw [u1, u2]; omega
          · rfl
    have ro1 : rb (.inr (p, e) : q_R (Int × Int)) (fun u => sOld S T N 3 u.1 u.2) = sOld S T N 3 p e := rfl
    cases ho1 : sOld S T N 3 p e with
    | inl e0 =>
      have hr : sRoad S T N p e = .inl e0 := by unfold sRoad; rw [ho1]; rfl
      refine V_aload_0 d_mo_roadTold_0 ?_
      refine V_iconst 4 d_mo_roadTold_1 ?_
      refine V_bipush 20 d_mo_roadTold_2 (by decide) ?_
      refine V_iload_1 d_mo_roadTold_4 ?_
      refine V_cvI3 d_mo_roadTold_5 ml_mo_267 mv_mo_isFull (by decide) (Nat.le_of_ble_eq_true rfl) is_mo (ok_isFull hT (by decide) (by decide) (by omega)) ?_
      rintro x F (⟨rfl, h1, t1, k1⟩ | ⟨rfl, h1, e1⟩)
      exact absurd (hc4.symm.trans h1) hc
      rw [e1]; clear e1 F
      refine V_if_eq 12 d_mo_roadTold_8 (by decide) (by omega) (fun c8 => ?_) (fun c8 => by omega)
      refine V_aload_0 d_mo_roadTold_12 ?_
      refine V_iconst 3 d_mo_roadTold_13 ?_
      refine V_cvI1 d_mo_roadTold_14 ml_mo_271 mv_mo_oneOf (by decide) (Nat.le_of_ble_eq_true rfl) is_mo (ok_oneOf hT hw hE.1 hW (by decide)) ?_
      rintro a F ⟨t1, k1, a1, -⟩
      rw [ro1, ho1] at t1
      have t1 : mpS F T N (.inl e0) := t1
      refine V_istore_2 d_mo_roadTold_17 rfl ?_
      refine V_aload_0 d_mo_roadTold_18 ?_
      refine V_iconst 3 d_mo_roadTold_19 ?_
      refine V_cvI1 d_mo_roadTold_20 ml_mo_271 mv_mo_oneOf (by decide) (Nat.le_of_ble_eq_true rfl) is_mo (ok_oneOf t1 (k1.z.w hw) (k1.n hE.1 hW) hW (by decide)) ?_
      rintro b F2 ⟨t2, k2, b1, -⟩
      refine V_istore_3 d_mo_roadTold_23 rfl ?_
      exact bad2 e0 a b F2 hr t2 (k1.tr k2)
    | inr u =>
      obtain ⟨a, q, d⟩ := u
      have ro2 : rb (.inr (q, d) : q_R (Int × Int)) (fun u => sOld S T N 3 u.1 u.2) = sOld S T N 3 q d := rfl
      cases ho2 : sOld S T N 3 q d with
      | inl e0 =>
        have hr : sRoad S T N p e = .inl e0 := by
          unfold sRoad; rw [ho1]
          show rb (sOld S T N 3 q d) _ = _
          rw [ho2]; rfl
        refine V_aload_0 d_mo_roadTold_0 ?_
        refine V_iconst 4 d_mo_roadTold_1 ?_
        refine V_bipush 20 d_mo_roadTold_2 (by decide) ?_
        refine V_iload_1 d_mo_roadTold_4 ?_
        refine V_cvI3 d_mo_roadTold_5 ml_mo_267 mv_mo_isFull (by decide) (Nat.le_of_ble_eq_true rfl) is_mo (ok_isFull hT (by decide) (by decide) (by omega)) ?_
        rintro x F (⟨rfl, h1, t1, k1⟩ | ⟨rfl, h1, e1⟩)
        exact absurd (hc4.symm.trans h1) hc
        rw [e1]; clear e1 F
        refine V_if_eq 12 d_mo_roadTold_8 (by decide) (by omega) (fun c8 => ?_) (fun c8 => by omega)
        refine V_aload_0 d_mo_roadTold_12 ?_
        refine V_iconst 3 d_mo_roadTold_13 ?_
        refine V_cvI1 d_mo_roadTold_14 ml_mo_271 mv_mo_oneOf (by decide) (Nat.le_of_ble_eq_true rfl) is_mo (ok_oneOf hT hw hE.1 hW (by decide)) ?_
        rintro x F ⟨t1, k1, a1, -⟩
        rw [ro1, ho1] at t1
        have t1 : mpS F T N (.inr (q, d)) := t1
        refine V_istore_2 d_mo_roadTold_17 rfl ?_
        refine V_aload_0 d_mo_roadTold_18 ?_
        refine V_iconst 3 d_mo_roadTold_19 ?_
        refine V_cvI1 d_mo_roadTold_20 ml_mo_271 mv_mo_oneOf (by decide) (Nat.le_of_ble_eq_true rfl) is_mo (ok_oneOf t1 (k1.z.w hw) (k1.n hE.1 hW) hW (by decide)) ?_
        rintro y F2 ⟨t2, k2, b1, -⟩
        rw [ro2, ho2] at t2
        refine V_istore_3 d_mo_roadTold_23 rfl ?_
        exact bad2 e0 x y F2 hr t2 (k1.tr k2)
      | inr u =>
        obtain ⟨b, q2, d2⟩ := u
        have hr : sRoad S T N p e = if a = b then .inl (3, q) else sRoad3 S T N a b q2 d2 := by
          unfold sRoad; rw [ho1]
          show rb (sOld S T N 3 q d) _ = _
          rw [ho2]; rfl
        have K : ∀ F : q_F, (0 ≤ a ∧ a ≤ 7) → (0 ≤ b ∧ b ≤ 7) → mpS F T N (.inr (q2, d2)) → mK f F → F 219 34 = q → V D C m_mo_roadTold 24 [vr D 219, vi w, vi a, vi b, vu] [] (Zg g h) F := by
          intro F ha hb t1 k1 f34
          have b1 := t1.2.2.2.1
          by_cases hab : a = b
          · rw [if_pos hab] at hr
            refine V_aload_0 d_mo_roadTold_24 ?_
            refine V_getI d_mo_roadTold_25 fl_mo_185 is_mo ?_
            rw [b1]
            refine V_if_ne 45 d_mo_roadTold_28 (by decide) (by omega) (fun c28 => by omega) (fun c28 => ?_)
            refine V_iload_2 d_mo_roadTold_31 ?_
            refine V_iload_3 d_mo_roadTold_32 ?_
            refine V_icmp_ne 45 d_mo_roadTold_33 (by decide) (by omega) (by omega) (fun c33 => by omega) (fun c33 => ?_)
            refine V_aload_0 d_mo_roadTold_36 ?_
            refine V_iconst 3 d_mo_roadTold_37 ?_
            refine V_aload_0 d_mo_roadTold_38 ?_
            refine V_getI d_mo_roadTold_39 fl_mo_233 is_mo ?_
            rw [f34]
            refine V_cvV2 d_mo_roadTold_42 ml_mo_215 mv_mo_fail (by decide) (Nat.le_of_ble_eq_true rfl) is_mo (ok_mfail t1 (by decide)) ?_
            rintro F2 ⟨t2, k2⟩
            exact bad (3, q) a b F2 hr t2 (k1.tr k2)
          · rw [if_neg hab] at hr
            refine V_aload_0 d_mo_roadTold_24 ?_
            refine V_getI d_mo_roadTold_25 fl_mo_185 is_mo ?_
            rw [b1]
            refine V_if_ne 45 d_mo_roadTold_28 (by decide) (by omega) (fun c28 => by omega) (fun c28 => ?_)
            refine V_iload_2 d_mo_roadTold_31 ?_
            refine V_iload_3 d_mo_roadTold_32 ?_
            refine V_icmp_ne 45 d_mo_roadTold_33 (by decide) (by omega) (by omega) (fun c33 => ?_) (fun c33 => by omega)
            exact good a b q2 d2 F (by omega) (by omega) hab hr t1 k1
        refine V_aload_0 d_mo_roadTold_0 ?_
        refine V_iconst 4 d_mo_roadTold_1 ?_
        refine V_bipush 20 d_mo_roadTold_2 (by decide) ?_
        refine V_iload_1 d_mo_roadTold_4 ?_
        refine V_cvI3 d_mo_roadTold_5 ml_mo_267 mv_mo_isFull (by decide) (Nat.le_of_ble_eq_true rfl) is_mo (ok_isFull hT (by decide) (by decide) (by omega)) ?_
        rintro x F (⟨rfl, h1, t1, k1⟩ | ⟨rfl, h1, e1⟩)
        exact absurd (hc4.symm.trans h1) hc
        rw [e1]; clear e1 F
        refine V_if_eq 12 d_mo_roadTold_8 (by decide) (by omega) (fun c8 => ?_) (fun c8 => by omega)
        refine V_aload_0 d_mo_roadTold_12 ?_
        refine V_iconst 3 d_mo_roadTold_13 ?_
        refine V_cvI1 d_mo_roadTold_14 ml_mo_271 mv_mo_oneOf (by decide) (Nat.le_of_ble_eq_true rfl) is_mo (ok_oneOf hT hw hE.1 hW (by decide)) ?_
        rintro x F ⟨t1, k1, a1, a2⟩
        rw [ro1, ho1] at t1
        have t1 : mpS F T N (.inr (q, d)) := t1
        have a3 := (a2 a q d ho1).1
        rw [a3] at a1
        rw [a3]
        refine V_istore_2 d_mo_roadTold_17 rfl ?_
        refine V_aload_0 d_mo_roadTold_18 ?_
        refine V_iconst 3 d_mo_roadTold_19 ?_
        refine V_cvI1 d_mo_roadTold_20 ml_mo_271 mv_mo_oneOf (by decide) (Nat.le_of_ble_eq_true rfl) is_mo (ok_oneOf t1 (k1.z.w hw) (k1.n hE.1 hW) hW (by decide)) ?_
        rintro y F2 ⟨t2, k2, b1, b2⟩
        rw [ro2, ho2] at t2
        obtain ⟨b3, b4⟩ := b2 b q2 d2 ho2
        rw [b3] at b1
        rw [b3]
        refine V_istore_3 d_mo_roadTold_23 rfl ?_
        exact K F2 a1 b1 t2 (k1.tr k2) (b4 q d rfl)
end RN7
