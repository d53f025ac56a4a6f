/-! the reference reads shades: the walk -/
section RN10
variable {D : q_D} {f f' f'' S S' : q_F} {A : q_As} {g h : Int} {T : Int → Int} {N p e : Int} {L : List Int}
/-- what stands while a shade is read -/
def hJ (S f F S1 : q_F) (l : List Int) (a b : Int) : Prop := (∀ j i, ¬ (j = 219 ∧ (i = 2 ∨ i = 4 ∨ i = 5 ∨ i = 6 ∨ i = 34)) → ¬ (j = 247 ∧ i = 8 * 2 + S 1 2) → ¬ ((j = 250 ∨ j = 251) ∧ 6 * S 1 2 ≤ i ∧ i < 6 * S 1 2 + 6) → ¬ (j = 252 ∧ i = S 1 2) → F j i = f j i) ∧ F 247 (8 * 2 + S 1 2) = pk27 l ∧ F 252 (S 1 2) = S1 35 (S 1 2) ∧ (∀ t, 0 ≤ t → t < a → F 250 (6 * S 1 2 + t) = S1 (24 + S 1 2) t) ∧ (∀ t, 0 ≤ t → t < b → F 251 (6 * S 1 2 + t) = S1 (30 + S 1 2) t) ∧ ∀ j i, ¬ j = 24 + S 1 2 → ¬ j = 30 + S 1 2 → ¬ (j = 35 ∧ i = S 1 2) → S1 j i = addN S 2 (pk32 l) j i
theorem hJ.z {F S1 : q_F} {l : List Int} {a b : Int} (h : hJ S f F S1 l a b) (hlt : 0 ≤ S 1 2 ∧ S 1 2 < 5) : mZ f F := fun j i n => h.1 j i (fun b => n (rdx b)) (fun b => n (by obtain ⟨rfl, b⟩ := b; exact rd247 (by omega))) (fun b => n (by obtain ⟨rfl | rfl, b⟩ := b; exact rd250 (by omega); exact rd251 (by omega))) (fun b => n (by obtain ⟨rfl, b⟩ := b; exact rd252 (by omega)))
theorem hJ.mk {F F' S1 : q_F} {l : List Int} {a b : Int} (h : hJ S f F S1 l a b) (hk : mK F F') : hJ S f F' S1 l a b := by
  obtain ⟨h1, h2, h3, h4, h5, h6⟩ := h
  refine ⟨fun j i c d e n => ?_, ?_, ?_, fun t c d => ?_, fun t c d => ?_, h6⟩
  · rw [hk _ _ c]; exact h1 j i c d e n
  · rw [hk _ _ (by omega)]; exact h2
  · rw [hk _ _ (by omega)]; exact h3
  · rw [hk _ _ (by omega)]; exact h4 t c d
  · rw [hk _ _ (by omega)]; exact h5 t c d
theorem hJ.up1 {F S1 : q_F} {l : List Int} {k v : Int} (h : hJ S f F S1 l k 0) (hlt : 0 ≤ S 1 2 ∧ S 1 2 < 5) (hk : 0 ≤ k ∧ k < 6) : hJ S f (q_up F 250 (6 * S 1 2 + k) v) (q_up S1 (24 + S 1 2) k v) l (k + 1) 0 := by
  obtain ⟨h1, h2, h3, h4, h5, h6⟩ := h
  refine ⟨fun j i c d e n => ?_, ?_, ?_, fun t c d => ?_, fun t c d => by omega, fun j i c d e => ?_⟩
  · rw [q_up_ne (by omega)]; exact h1 j i c d e n
  · rw [q_up_ne (by omega)]; exact h2
  · rw [q_up_ne (by omega), q_up_ne (by omega)]; exact h3
  · by_cases et : t = k
    · rw [et, q_up_eq, q_up_eq]
    · rw [q_up_ne (by omega), q_up_ne (by omega)]; exact h4 t c (by omega)
  · rw [q_up_ne (by omega)]; exact h6 j i c d e
theorem hJ.up2 {F S1 : q_F} {l : List Int} {a k v : Int} (h : hJ S f F S1 l a k) (hlt : 0 ≤ S 1 2 ∧ S 1 2 < 5) (hk : 0 ≤ k ∧ k < 6) : hJ S f (q_up F 251 (6 * S 1 2 + k) v) (q_up S1 (30 + S 1 2) k v) l a (k + 1) := by
  obtain ⟨h1, h2, h3, h4, h5, h6⟩ := h
  refine ⟨fun j i c d e n => ?_, ?_, ?_, fun t c d => ?_, fun t c d => ?_, fun j i c d e => ?_⟩
  · rw [q_up_ne (by omega)]; exact h1 j i c d e n
  · rw [q_up_ne (by omega)]; exact h2
  · rw [q_up_ne (by omega), q_up_ne (by omega)]; exact h3
  · rw [q_up_ne (by omega), q_up_ne (by omega)]; exact h4 t c d
  · by_cases et : t = k
    · rw [et, q_up_eq, q_up_eq]
    · rw [q_up_ne (by omega), q_up_ne (by omega)]; exact h5 t c (by omega)
  · rw [q_up_ne (by omega)]; exact h6 j i c d e
theorem sFor_s {j hi k v q d q' d' : Int} {m : Nat} {S1 : q_F} (hl : l_num T N 0 hi q d = .inr (v, q', d')) : sFor T N j hi (m + 1) S1 k q d = sFor T N j hi m (q_up S1 j k v) (k + 1) q' d' := by
  show rb (sNum S1 T N j k 0 hi q d) _ = _
  unfold sNum; rw [hl]; rfl
theorem sFor_b {j hi k q d : Int} {e0 : Int × Int} {m : Nat} {S1 : q_F} (hl : l_num T N 0 hi q d = .inl e0) : sFor T N j hi (m + 1) S1 k q d = .inl e0 := by
  show rb (sNum S1 T N j k 0 hi q d) _ = _
  unfold sNum; rw [hl]; rfl
theorem ok_shadeTold (hT : mpS f T N (.inr (p, e))) (hw : mW f) (hE : mE f S L) (hW : pW S) {w : Int} : OkV D m_mo_shadeTold [vr D 219, vi w] (Zg g h) f (fun f' => mP f f' T N (if S 1 2 < 5 then lf L (sShade S T N p e) else .inl (5, w))) := by
  have hcn := hW.2.2.1
  have h6 := hW.1
  have hc2 := hE.1.1 2 (by decide) (by decide)
  have hc0 := hE.1.1 0 (by decide) (by decide)
  refine OkV_of (L0 := [vr D 219, vi w, vu, vu, vu]) mi_mo_shadeTold rfl rfl (Nat.le_of_ble_eq_true rfl) (fun C hR => ?_)
  by_cases hc : S 1 2 = 5
  · rw [if_neg (by omega)] at hR
    refine V_aload_0 d_mo_shadeTold_0 ?_
    refine V_iconst 2 d_mo_shadeTold_1 ?_
    refine V_iconst 5 d_mo_shadeTold_2 ?_
    refine V_iload_1 d_mo_shadeTold_3 ?_
    refine V_cvI3 d_mo_shadeTold_4 ml_mo_267 mv_mo_isFull (by decide) (Nat.le_of_ble_eq_true rfl) is_mo (ok_isFull hT (by decide) (by decide) (by omega)) ?_
    rintro x F (⟨rfl, h1, t1, k1⟩ | ⟨rfl, h1, e1⟩)
    rotate_left
    exact absurd (hc2.trans hc) h1
    refine V_if_eq 11 d_mo_shadeTold_7 (by decide) (by omega) (fun c7 => by omega) (fun c7 => ?_)
    refine V_return d_mo_shadeTold_10 (hR _ ?_)
    exact ⟨k1.z, t1⟩
  · rw [if_pos (by omega)] at hR
    have hlt : 0 ≤ S 1 2 ∧ S 1 2 < 5 := by omega
    have bad98 : ∀ (e0 : Int × Int), sShade S T N p e = .inl e0 → ∀ (v : Int) (m : Nat) (k : Int) (F : q_F), k + m = S 1 0 → 0 ≤ k → mpS F T N (.inl e0) → mZ f F → F 246 0 = S 1 0 → V D C m_mo_shadeTold 98 [vr D 219, vi w, vi (S 1 2), vi v, vi k] [] (Zg g h) F := by
      intro e0 hr v m
      rw [hr] at hR
      induction m with
      | zero =>
        intro k F km k0 t1 z1 c0
        have b1 := t1.2.2.2
        refine V_iload_4 d_mo_shadeTold_98 ?_
        refine V_aload_0 d_mo_shadeTold_100 ?_
        refine V_getR d_mo_shadeTold_101 fl_mo_93 is_mo r_mo_many ?_
        refine V_iconst 0 d_mo_shadeTold_104 ?_
        refine V_iald d_mo_shadeTold_105 is_mo_many (by omega) (by omega) ?_
        rw [c0]
        refine V_icmp_ge 133 d_mo_shadeTold_106 (by decide) (by omega) (by omega) (fun c106 => ?_) (fun c106 => by omega)
        refine V_aload_0 d_mo_shadeTold_133 ?_
        refine V_getI d_mo_shadeTold_134 fl_mo_185 is_mo ?_
        rw [b1.1]
        refine V_if_ne 150 d_mo_shadeTold_137 (by decide) (by omega) (fun c137 => ?_) (fun c137 => by omega)
        refine V_return d_mo_shadeTold_150 (hR _ ?_)
        exact ⟨z1, t1⟩
      | succ m ih =>
        intro k F km k0 t1 z1 c0
        refine V_iload_4 d_mo_shadeTold_98 ?_
        refine V_aload_0 d_mo_shadeTold_100 ?_
        refine V_getR d_mo_shadeTold_101 fl_mo_93 is_mo r_mo_many ?_
        refine V_iconst 0 d_mo_shadeTold_104 ?_
        refine V_iald d_mo_shadeTold_105 is_mo_many (by omega) (by omega) ?_
        rw [c0]
        refine V_icmp_ge 133 d_mo_shadeTold_106 (by decide) (by omega) (by omega) (fun c106 => by omega) (fun c106 => ?_)
        refine V_aload_0 d_mo_shadeTold_109 ?_
        refine V_getR d_mo_shadeTold_110 fl_mo_109 is_mo r_mo_fakes ?_
        refine V_bipush 6 d_mo_shadeTold_113 (by decide) ?_
        refine V_iload_2 d_mo_shadeTold_115 ?_
        refine V_imul d_mo_shadeTold_116 ?_
        refine V_iload_4 d_mo_shadeTold_117 ?_
        refine V_iadd d_mo_shadeTold_119 ?_
        refine V_aload_0 d_mo_shadeTold_120 ?_
        refine V_iconst 0 d_mo_shadeTold_121 ?_
        refine V_iconst 1 d_mo_shadeTold_122 ?_
        refine V_cvI2 d_mo_shadeTold_123 ml_mo_256 mv_mo_number (by decide) (Nat.le_of_ble_eq_true rfl) is_mo (ok_number t1 (by decide) (by decide)) ?_
        rintro x F2 ⟨t2, k2, x2, -⟩
        have t2 : mpS F2 T N (.inl e0) := t2
        refine V_iast d_mo_shadeTold_126 is_mo_fakes (by omega) (by omega) ?_
        refine V_iinc_4 d_mo_shadeTold_127 rfl ?_
        refine V_goto 98 d_mo_shadeTold_130 (by decide) ?_
        exact ih _ _ (by omega) (by omega) (t2.fr (fun j i hji => by rw [q_up_ne (by omega)])) ((z1.tr k2.z).up (by first | exact rd219 (by omega) | exact rd246 (by omega) | exact rd247 (by omega) | exact rd248 (by omega) | exact rd249 (by omega) | exact rd250 (by omega) | exact rd251 (by omega) | exact rd252 (by omega) | exact rd253 (by omega) | exact rd254 (by omega) | exact rd257 (by omega) (by omega))) (by rw [q_up_ne (by omega), k2 _ _ (by decide)]; exact c0)
    have bad87 : ∀ (e0 : Int × Int), sShade S T N p e = .inl e0 → ∀ (v x : Int) (F : q_F), mpS F T N (.inl e0) → mZ f F → F 246 0 = S 1 0 → V D C m_mo_shadeTold 87 [vr D 219, vi w, vi (S 1 2), vi v, vi x] [] (Zg g h) F := by
      intro e0 hr v x F t1 z1 c0
      refine V_aload_0 d_mo_shadeTold_87 ?_
      refine V_aload_0 d_mo_shadeTold_88 ?_
      refine V_getR d_mo_shadeTold_89 fl_mo_30 is_mo r_mo_fakesWord ?_
      refine V_cvV1 d_mo_shadeTold_92 ml_mo_248 mv_mo_asks (by decide) (Nat.le_of_ble_eq_true rfl) is_mo (ok_askA t1 (z1.w hw) 4 (by decide) rfl) ?_
      rintro F2 ⟨t2, k2⟩
      have t2 : mpS F2 T N (.inl e0) := t2
      refine V_iconst 0 d_mo_shadeTold_95 ?_
      refine V_istore_4 d_mo_shadeTold_96 rfl ?_
      exact bad98 e0 hr v (S 1 0).toNat _ _ (by omega) (by decide) t2 (z1.tr k2.z) (by rw [k2 _ _ (by decide)]; exact c0)
    have bad51 : ∀ (e0 : Int × Int), sShade S T N p e = .inl e0 → ∀ (v : Int) (m : Nat) (k : Int) (F : q_F), k + m = S 1 0 → 0 ≤ k → mpS F T N (.inl e0) → mZ f F → F 246 0 = S 1 0 → V D C m_mo_shadeTold 51 [vr D 219, vi w, vi (S 1 2), vi v, vi k] [] (Zg g h) F := by
      intro e0 hr v m
      induction m with
      | zero =>
        intro k F km k0 t1 z1 c0
        refine V_iload_4 d_mo_shadeTold_51 ?_
        refine V_aload_0 d_mo_shadeTold_53 ?_
        refine V_getR d_mo_shadeTold_54 fl_mo_93 is_mo r_mo_many ?_
        refine V_iconst 0 d_mo_shadeTold_57 ?_
        refine V_iald d_mo_shadeTold_58 is_mo_many (by omega) (by omega) ?_
        rw [c0]
        refine V_icmp_ge 87 d_mo_shadeTold_59 (by decide) (by omega) (by omega) (fun c59 => ?_) (fun c59 => by omega)
        exact bad87 e0 hr v _ F t1 z1 c0
      | succ m ih =>
        intro k F km k0 t1 z1 c0
        refine V_iload_4 d_mo_shadeTold_51 ?_
        refine V_aload_0 d_mo_shadeTold_53 ?_
        refine V_getR d_mo_shadeTold_54 fl_mo_93 is_mo r_mo_many ?_
        refine V_iconst 0 d_mo_shadeTold_57 ?_
        refine V_iald d_mo_shadeTold_58 is_mo_many (by omega) (by omega) ?_
        rw [c0]
        refine V_icmp_ge 87 d_mo_shadeTold_59 (by decide) (by omega) (by omega) (fun c59 => by omega) (fun c59 => ?_)
        refine V_aload_0 d_mo_shadeTold_62 ?_
        refine V_getR d_mo_shadeTold_63 fl_mo_106 is_mo r_mo_shadeHas ?_
        refine V_bipush 6 d_mo_shadeTold_66 (by decide) ?_
        refine V_iload_2 d_mo_shadeTold_68 ?_
        refine V_imul d_mo_shadeTold_69 ?_
        refine V_iload_4 d_mo_shadeTold_70 ?_
        refine V_iadd d_mo_shadeTold_72 ?_
        refine V_aload_0 d_mo_shadeTold_73 ?_
        refine V_iconst 0 d_mo_shadeTold_74 ?_
        refine V_bipush 9 d_mo_shadeTold_75 (by decide) ?_
        refine V_cvI2 d_mo_shadeTold_77 ml_mo_256 mv_mo_number (by decide) (Nat.le_of_ble_eq_true rfl) is_mo (ok_number t1 (by decide) (by decide)) ?_
        rintro x F2 ⟨t2, k2, x2, -⟩
        have t2 : mpS F2 T N (.inl e0) := t2
        refine V_iast d_mo_shadeTold_80 is_mo_shadeHas (by omega) (by omega) ?_
        refine V_iinc_4 d_mo_shadeTold_81 rfl ?_
        refine V_goto 51 d_mo_shadeTold_84 (by decide) ?_
        exact ih _ _ (by omega) (by omega) (t2.fr (fun j i hji => by rw [q_up_ne (by omega)])) ((z1.tr k2.z).up (by first | exact rd219 (by omega) | exact rd246 (by omega) | exact rd247 (by omega) | exact rd248 (by omega) | exact rd249 (by omega) | exact rd250 (by omega) | exact rd251 (by omega) | exact rd252 (by omega) | exact rd253 (by omega) | exact rd254 (by omega) | exact rd257 (by omega) (by omega))) (by rw [q_up_ne (by omega), k2 _ _ (by decide)]; exact c0)
    have bad25 : ∀ (e0 : Int × Int), sShade S T N p e = .inl e0 → ∀ (F : q_F), mpS F T N (.inl e0) → mZ f F → V D C m_mo_shadeTold 25 [vr D 219, vi w, vi (S 1 2), vu, vu] [] (Zg g h) F := by
      intro e0 hr F t1 z1
      rw [hr] at hR
      refine V_aload_0 d_mo_shadeTold_25 ?_
      refine V_iconst 1 d_mo_shadeTold_26 ?_
      refine V_bipush 99 d_mo_shadeTold_27 (by decide) ?_
      refine V_cvI2 d_mo_shadeTold_29 ml_mo_256 mv_mo_number (by decide) (Nat.le_of_ble_eq_true rfl) is_mo (ok_number t1 (by decide) (by decide)) ?_
      rintro x F2 ⟨t2, k2, x2, -⟩
      have t2 : mpS F2 T N (.inl e0) := t2
      have b2 := t2.2.2.2
      refine V_istore_3 d_mo_shadeTold_32 rfl ?_
      refine V_aload_0 d_mo_shadeTold_33 ?_
      refine V_getI d_mo_shadeTold_34 fl_mo_185 is_mo ?_
      rw [b2.1]
      refine V_if_eq 41 d_mo_shadeTold_37 (by decide) (by omega) (fun c37 => by omega) (fun c37 => ?_)
      refine V_return d_mo_shadeTold_40 (hR _ ?_)
      exact ⟨z1.tr k2.z, t2⟩
    have good98 : ∀ (l : List Int), isNm l → ∀ (v : Int) (m : Nat) (k q d : Int) (F S1 : q_F), k + m = S 1 0 → 0 ≤ k → mpS F T N (.inr (q, d)) → hJ S f F S1 l (S 1 0) k → sShade S T N p e = sFor T N (30 + S 1 2) 1 m S1 k q d → V D C m_mo_shadeTold 98 [vr D 219, vi w, vi (S 1 2), vi v, vi k] [] (Zg g h) F := by
      intro l ln v m
      induction m with
      | zero =>
        intro k q d F S1 km k0 t1 j1 hr
        have b1 := t1.2.2.2
        have c0 : F 246 0 = S 1 0 := by rw [j1.1 _ _ (by omega) (by omega) (by omega) (by omega)]; exact hc0
        have c1 : F 246 2 = S 1 2 := by rw [j1.1 _ _ (by omega) (by omega) (by omega) (by omega)]; exact hc2
        rw [hr] at hR
        refine V_iload_4 d_mo_shadeTold_98 ?_
        refine V_aload_0 d_mo_shadeTold_100 ?_
        refine V_getR d_mo_shadeTold_101 fl_mo_93 is_mo r_mo_many ?_
        refine V_iconst 0 d_mo_shadeTold_104 ?_
        refine V_iald d_mo_shadeTold_105 is_mo_many (by omega) (by omega) ?_
        rw [c0]
        refine V_icmp_ge 133 d_mo_shadeTold_106 (by decide) (by omega) (by omega) (fun c106 => ?_) (fun c106 => by omega)
        refine V_aload_0 d_mo_shadeTold_133 ?_
        refine V_getI d_mo_shadeTold_134 fl_mo_185 is_mo ?_
        rw [b1.1]
        refine V_if_ne 150 d_mo_shadeTold_137 (by decide) (by omega) (fun c137 => by omega) (fun c137 => ?_)
        refine V_aload_0 d_mo_shadeTold_140 ?_
        refine V_getR d_mo_shadeTold_141 fl_mo_93 is_mo r_mo_many ?_
        refine V_iconst 2 d_mo_shadeTold_144 ?_
        refine V_dup2 d_mo_shadeTold_145 rfl rfl ?_
        refine V_iald d_mo_shadeTold_146 is_mo_many (by omega) (by omega) ?_
        rw [c1]
        refine V_iconst 1 d_mo_shadeTold_147 ?_
        refine V_iadd d_mo_shadeTold_148 ?_
        refine V_iast d_mo_shadeTold_149 is_mo_many (by omega) (by omega) ?_
        refine V_return d_mo_shadeTold_150 (hR _ ?_)
        refine ⟨?_, ?_, ?_⟩
        · exact (j1.z hlt).up (by first | exact rd219 (by omega) | exact rd246 (by omega) | exact rd247 (by omega) | exact rd248 (by omega) | exact rd249 (by omega) | exact rd250 (by omega) | exact rd251 (by omega) | exact rd252 (by omega) | exact rd253 (by omega) | exact rd254 (by omega) | exact rd257 (by omega) (by omega))
        · exact t1.fr (fun j i hji => by rw [q_up_ne (by omega)])
        · exact hE.shade hW ln hlt.2 j1.1 j1.2.1 (fun t a b => ⟨j1.2.2.2.1 t a b, j1.2.2.2.2.1 t a (by omega)⟩) j1.2.2.1 j1.2.2.2.2.2
      | succ m ih =>
        intro k q d F S1 km k0 t1 j1 hr
        have c0 : F 246 0 = S 1 0 := by rw [j1.1 _ _ (by omega) (by omega) (by omega) (by omega)]; exact hc0
        cases hl : l_num T N 0 1 q d with
        | inl e0 =>
          rw [sFor_b hl] at hr
          refine V_iload_4 d_mo_shadeTold_98 ?_
          refine V_aload_0 d_mo_shadeTold_100 ?_
          refine V_getR d_mo_shadeTold_101 fl_mo_93 is_mo r_mo_many ?_
          refine V_iconst 0 d_mo_shadeTold_104 ?_
          refine V_iald d_mo_shadeTold_105 is_mo_many (by omega) (by omega) ?_
          rw [c0]
          refine V_icmp_ge 133 d_mo_shadeTold_106 (by decide) (by omega) (by omega) (fun c106 => by omega) (fun c106 => ?_)
          refine V_aload_0 d_mo_shadeTold_109 ?_
          refine V_getR d_mo_shadeTold_110 fl_mo_109 is_mo r_mo_fakes ?_
          refine V_bipush 6 d_mo_shadeTold_113 (by decide) ?_
          refine V_iload_2 d_mo_shadeTold_115 ?_
          refine V_imul d_mo_shadeTold_116 ?_
          refine V_iload_4 d_mo_shadeTold_117 ?_
          refine V_iadd d_mo_shadeTold_119 ?_
          refine V_aload_0 d_mo_shadeTold_120 ?_
          refine V_iconst 0 d_mo_shadeTold_121 ?_
          refine V_iconst 1 d_mo_shadeTold_122 ?_
          refine V_cvI2 d_mo_shadeTold_123 ml_mo_256 mv_mo_number (by decide) (Nat.le_of_ble_eq_true rfl) is_mo (ok_number t1 (by decide) (by decide)) ?_
          rintro x F2 ⟨t2, k2, x2, -⟩
          have t2 : mpS F2 T N (.inl e0) := by
            have t3 : mpS F2 T N (pst (l_num T N 0 1 q d)) := t2
            rw [hl] at t3; exact t3
          refine V_iast d_mo_shadeTold_126 is_mo_fakes (by omega) (by omega) ?_
          refine V_iinc_4 d_mo_shadeTold_127 rfl ?_
          refine V_goto 98 d_mo_shadeTold_130 (by decide) ?_
          exact bad98 e0 hr v m _ _ (by omega) (by omega) (t2.fr (fun j i hji => by rw [q_up_ne (by omega)])) (((j1.z hlt).tr k2.z).up (by first | exact rd219 (by omega) | exact rd246 (by omega) | exact rd247 (by omega) | exact rd248 (by omega) | exact rd249 (by omega) | exact rd250 (by omega) | exact rd251 (by omega) | exact rd252 (by omega) | exact rd253 (by omega) | exact rd254 (by omega) | exact rd257 (by omega) (by omega))) (by rw [q_up_ne (by omega), k2 _ _ (by decide)]; exact c0)
        | inr u =>
          obtain ⟨v', q', d'⟩ := u
          rw [sFor_s hl] at hr
          refine V_iload_4 d_mo_shadeTold_98 ?_
          refine V_aload_0 d_mo_shadeTold_100 ?_
          refine V_getR d_mo_shadeTold_101 fl_mo_93 is_mo r_mo_many ?_
          refine V_iconst 0 d_mo_shadeTold_104 ?_
          refine V_iald d_mo_shadeTold_105 is_mo_many (by omega) (by omega) ?_
          rw [c0]
          refine V_icmp_ge 133 d_mo_shadeTold_106 (by decide) (by omega) (by omega) (fun c106 => by omega) (fun c106 => ?_)
          refine V_aload_0 d_mo_shadeTold_109 ?_
          refine V_getR d_mo_shadeTold_110 fl_mo_109 is_mo r_mo_fakes ?_
          refine V_bipush 6 d_mo_shadeTold_113 (by decide) ?_
          refine V_iload_2 d_mo_shadeTold_115 ?_
          refine V_imul d_mo_shadeTold_116 ?_
          refine V_iload_4 d_mo_shadeTold_117 ?_
          refine V_iadd d_mo_shadeTold_119 ?_
          refine V_aload_0 d_mo_shadeTold_120 ?_
          refine V_iconst 0 d_mo_shadeTold_121 ?_
          refine V_iconst 1 d_mo_shadeTold_122 ?_
          refine V_cvI2 d_mo_shadeTold_123 ml_mo_256 mv_mo_number (by decide) (Nat.le_of_ble_eq_true rfl) is_mo (ok_number t1 (by decide) (by decide)) ?_
          rintro x F2 ⟨t2, k2, x2, x3⟩
          have t2 : mpS F2 T N (.inr (q', d')) := by
            have t3 : mpS F2 T N (pst (l_num T N 0 1 q d)) := t2
            rw [hl] at t3; exact t3
          have x3 : x = v' := x3 v' q' d' hl
          rw [x3]
          refine V_iast d_mo_shadeTold_126 is_mo_fakes (by omega) (by omega) ?_
          refine V_iinc_4 d_mo_shadeTold_127 rfl ?_
          refine V_goto 98 d_mo_shadeTold_130 (by decide) ?_
          exact ih _ q' d' _ _ (by omega) (by omega) (t2.fr (fun j i hji => by rw [q_up_ne (by omega)])) ((j1.mk k2).up2 hlt (by omega)) hr
    have good87 : ∀ (l : List Int), isNm l → ∀ (v x q d : Int) (F S1 : q_F), mpS F T N (.inr (q, d)) → hJ S f F S1 l (S 1 0) 0 → sShade S T N p e = sShade5 T N (S 1 2) S1 q d → V D C m_mo_shadeTold 87 [vr D 219, vi w, vi (S 1 2), vi v, vi x] [] (Zg g h) F := by
      intro l ln v x q d F S1 t1 j1 hr
      unfold sShade5 at hr
      have s10 : S1 1 0 = S 1 0 := by rw [j1.2.2.2.2.2 _ _ (by omega) (by omega) (by omega), addN_cn (by decide), if_neg (by decide)]
      cases hl : l_word T N 4 q d with
      | inl e0 =>
        rw [hl] at hr
        refine V_aload_0 d_mo_shadeTold_87 ?_
        refine V_aload_0 d_mo_shadeTold_88 ?_
        refine V_getR d_mo_shadeTold_89 fl_mo_30 is_mo r_mo_fakesWord ?_
        refine V_cvV1 d_mo_shadeTold_92 ml_mo_248 mv_mo_asks (by decide) (Nat.le_of_ble_eq_true rfl) is_mo (ok_askA t1 ((j1.z hlt).w hw) 4 (by decide) rfl) ?_
        rintro F2 ⟨t2, k2⟩
        have t2 : mpS F2 T N (.inl e0) := by
          have t3 : mpS F2 T N (l_word T N 4 q d) := t2
          rw [hl] at t3; exact t3
        refine V_iconst 0 d_mo_shadeTold_95 ?_
        refine V_istore_4 d_mo_shadeTold_96 rfl ?_
        exact bad98 e0 hr v (S 1 0).toNat _ _ (by omega) (by decide) t2 ((j1.z hlt).tr k2.z) (by rw [k2 _ _ (by decide), j1.1 _ _ (by omega) (by omega) (by omega) (by omega)]; exact hc0)
      | inr u =>
        obtain ⟨q', d'⟩ := u
        rw [hl] at hr
        have hr : sShade S T N p e = sFor T N (30 + S 1 2) 1 (S1 1 0).toNat S1 0 q' d' := hr
        refine V_aload_0 d_mo_shadeTold_87 ?_
        refine V_aload_0 d_mo_shadeTold_88 ?_
        refine V_getR d_mo_shadeTold_89 fl_mo_30 is_mo r_mo_fakesWord ?_
        refine V_cvV1 d_mo_shadeTold_92 ml_mo_248 mv_mo_asks (by decide) (Nat.le_of_ble_eq_true rfl) is_mo (ok_askA t1 ((j1.z hlt).w hw) 4 (by decide) rfl) ?_
        rintro F2 ⟨t2, k2⟩
        have t2 : mpS F2 T N (.inr (q', d')) := by
          have t3 : mpS F2 T N (l_word T N 4 q d) := t2
          rw [hl] at t3; exact t3
        refine V_iconst 0 d_mo_shadeTold_95 ?_
        refine V_istore_4 d_mo_shadeTold_96 rfl ?_
        exact good98 l ln v (S1 1 0).toNat _ q' d' _ S1 (by omega) (by decide) t2 (j1.mk k2) hr
    have good51 : ∀ (l : List Int), isNm l → ∀ (v : Int) (m : Nat) (k q d : Int) (F S1 : q_F), k + m = S 1 0 → 0 ≤ k → mpS F T N (.inr (q, d)) → hJ S f F S1 l k 0 → sShade S T N p e = rb (sFor T N (24 + S 1 2) 9 m S1 k q d) (fun s => sShade5 T N (S 1 2) s.1 s.2.1 s.2.2) → V D C m_mo_shadeTold 51 [vr D 219, vi w, vi (S 1 2), vi v, vi k] [] (Zg g h) F := by
      intro l ln v m
      induction m with
      | zero =>
        intro k q d F S1 km k0 t1 j1 hr
        have c0 : F 246 0 = S 1 0 := by rw [j1.1 _ _ (by omega) (by omega) (by omega) (by omega)]; exact hc0
        refine V_iload_4 d_mo_shadeTold_51 ?_
        refine V_aload_0 d_mo_shadeTold_53 ?_
        refine V_getR d_mo_shadeTold_54 fl_mo_93 is_mo r_mo_many ?_
        refine V_iconst 0 d_mo_shadeTold_57 ?_
        refine V_iald d_mo_shadeTold_58 is_mo_many (by omega) (by omega) ?_
        rw [c0]
        refine V_icmp_ge 87 d_mo_shadeTold_59 (by decide) (by omega) (by omega) (fun c59 => ?_) (fun c59 => by omega)
        exact good87 l ln v _ q d F S1 t1 (by rw [show S 1 0 = k by omega]; exact j1) hr
      | succ m ih =>
        intro k q d F S1 km k0 t1 j1 hr
        have c0 : F 246 0 = S 1 0 := by rw [j1.1 _ _ (by omega) (by omega) (by omega) (by omega)]; exact hc0
        cases hl : l_num T N 0 9 q d with
        | inl e0 =>
          rw [sFor_b hl] at hr
          refine V_iload_4 d_mo_shadeTold_51 ?_
          refine V_aload_0 d_mo_shadeTold_53 ?_
          refine V_getR d_mo_shadeTold_54 fl_mo_93 is_mo r_mo_many ?_
          refine V_iconst 0 d_mo_shadeTold_57 ?_
          refine V_iald d_mo_shadeTold_58 is_mo_many (by omega) (by omega) ?_
          rw [c0]
          refine V_icmp_ge 87 d_mo_shadeTold_59 (by decide) (by omega) (by omega) (fun c59 => by omega) (fun c59 => ?_)
          refine V_aload_0 d_mo_shadeTold_62 ?_
          refine V_getR d_mo_shadeTold_63 fl_mo_106 is_mo r_mo_shadeHas ?_
          refine V_bipush 6 d_mo_shadeTold_66 (by decide) ?_
          refine V_iload_2 d_mo_shadeTold_68 ?_
          refine V_imul d_mo_shadeTold_69 ?_
          refine V_iload_4 d_mo_shadeTold_70 ?_
          refine V_iadd d_mo_shadeTold_72 ?_
          refine V_aload_0 d_mo_shadeTold_73 ?_
          refine V_iconst 0 d_mo_shadeTold_74 ?_
          refine V_bipush 9 d_mo_shadeTold_75 (by decide) ?_
          refine V_cvI2 d_mo_shadeTold_77 ml_mo_256 mv_mo_number (by decide) (Nat.le_of_ble_eq_true rfl) is_mo (ok_number t1 (by decide) (by decide)) ?_
          rintro x F2 ⟨t2, k2, x2, -⟩
          have t2 : mpS F2 T N (.inl e0) := by
            have t3 : mpS F2 T N (pst (l_num T N 0 9 q d)) := t2
            rw [hl] at t3; exact t3
          refine V_iast d_mo_shadeTold_80 is_mo_shadeHas (by omega) (by omega) ?_
          refine V_iinc_4 d_mo_shadeTold_81 rfl ?_
          refine V_goto 51 d_mo_shadeTold_84 (by decide) ?_
          exact bad51 e0 hr v m _ _ (by omega) (by omega) (t2.fr (fun j i hji => by rw [q_up_ne (by omega)])) (((j1.z hlt).tr k2.z).up (by first | exact rd219 (by omega) | exact rd246 (by omega) | exact rd247 (by omega) | exact rd248 (by omega) | exact rd249 (by omega) | exact rd250 (by omega) | exact rd251 (by omega) | exact rd252 (by omega) | exact rd253 (by omega) | exact rd254 (by omega) | exact rd257 (by omega) (by omega))) (by rw [q_up_ne (by omega), k2 _ _ (by decide)]; exact c0)
        | inr u =>
          obtain ⟨v', q', d'⟩ := u
          rw [sFor_s hl] at hr
          refine V_iload_4 d_mo_shadeTold_51 ?_
          refine V_aload_0 d_mo_shadeTold_53 ?_
          refine V_getR d_mo_shadeTold_54 fl_mo_93 is_mo r_mo_many ?_
          refine V_iconst 0 d_mo_shadeTold_57 ?_
          refine V_iald d_mo_shadeTold_58 is_mo_many (by omega) (by omega) ?_
          rw [c0]
          refine V_icmp_ge 87 d_mo_shadeTold_59 (by decide) (by omega) (by omega) (fun c59 => by omega) (fun c59 => ?_)
          refine V_aload_0 d_mo_shadeTold_62 ?_
          refine V_getR d_mo_shadeTold_63 fl_mo_106 is_mo r_mo_shadeHas ?_
          refine V_bipush 6 d_mo_shadeTold_66 (by decide) ?_
          refine V_iload_2 d_mo_shadeTold_68 ?_
          refine V_imul d_mo_shadeTold_69 ?_
          refine V_iload_4 d_mo_shadeTold_70 ?_
          refine V_iadd d_mo_shadeTold_72 ?_
          refine V_aload_0 d_mo_shadeTold_73 ?_
          refine V_iconst 0 d_mo_shadeTold_74 ?_
          refine V_bipush 9 d_mo_shadeTold_75 (by decide) ?_
          refine V_cvI2 d_mo_shadeTold_77 ml_mo_256 mv_mo_number (by decide) (Nat.le_of_ble_eq_true rfl) is_mo (ok_number t1 (by decide) (by decide)) ?_
          rintro x F2 ⟨t2, k2, x2, x3⟩
          have t2 : mpS F2 T N (.inr (q', d')) := by
            have t3 : mpS F2 T N (pst (l_num T N 0 9 q d)) := t2
            rw [hl] at t3; exact t3
          have x3 : x = v' := x3 v' q' d' hl
          rw [x3]
          refine V_iast d_mo_shadeTold_80 is_mo_shadeHas (by omega) (by omega) ?_
          refine V_iinc_4 d_mo_shadeTold_81 rfl ?_
          refine V_goto 51 d_mo_shadeTold_84 (by decide) ?_
          exact ih _ q' d' _ _ (by omega) (by omega) (t2.fr (fun j i hji => by rw [q_up_ne (by omega)])) ((j1.mk k2).up1 hlt (by omega)) hr
    have good25 : ∀ (l : List Int), isNm l → ∀ (q d : Int) (F : q_F), mpS F T N (.inr (q, d)) → (∀ j i, ¬ (j = 219 ∧ (i = 2 ∨ i = 4 ∨ i = 5 ∨ i = 6 ∨ i = 34)) → ¬ (j = 247 ∧ i = 8 * 2 + S 1 2) → F j i = f j i) → F 247 (8 * 2 + S 1 2) = pk27 l → sShade S T N p e = sShade3 T N (S 1 2) (addN S 2 (pk32 l)) q d → V D C m_mo_shadeTold 25 [vr D 219, vi w, vi (S 1 2), vu, vu] [] (Zg g h) F := by
      intro l ln q d F t1 k1 l1 hr
      unfold sShade3 sNum at hr
      have z1 : mZ f F := fun j i a => k1 j i (fun b => a (rdx b)) (fun b => a (by obtain ⟨rfl, b⟩ := b; exact rd247 (by omega)))
      cases hl : l_num T N 1 99 q d with
      | inl e0 =>
        rw [hl] at hr
        have hr : sShade S T N p e = .inl e0 := hr
        rw [hr] at hR
        refine V_aload_0 d_mo_shadeTold_25 ?_
        refine V_iconst 1 d_mo_shadeTold_26 ?_
        refine V_bipush 99 d_mo_shadeTold_27 (by decide) ?_
        refine V_cvI2 d_mo_shadeTold_29 ml_mo_256 mv_mo_number (by decide) (Nat.le_of_ble_eq_true rfl) is_mo (ok_number t1 (by decide) (by decide)) ?_
        rintro x F2 ⟨t2, k2, x2, -⟩
        have t2 : mpS F2 T N (.inl e0) := by
          have t3 : mpS F2 T N (pst (l_num T N 1 99 q d)) := t2
          rw [hl] at t3; exact t3
        have b2 := t2.2.2.2
        refine V_istore_3 d_mo_shadeTold_32 rfl ?_
        refine V_aload_0 d_mo_shadeTold_33 ?_
        refine V_getI d_mo_shadeTold_34 fl_mo_185 is_mo ?_
        rw [b2.1]
        refine V_if_eq 41 d_mo_shadeTold_37 (by decide) (by omega) (fun c37 => by omega) (fun c37 => ?_)
        refine V_return d_mo_shadeTold_40 (hR _ ?_)
        exact ⟨z1.tr k2.z, t2⟩
      | inr u =>
        obtain ⟨v', q', d'⟩ := u
        rw [hl] at hr
        have hr : sShade S T N p e = sShade4 T N (S 1 2) (q_up (addN S 2 (pk32 l)) 35 (S 1 2) v') q' d' := hr
        unfold sShade4 at hr
        have s10 : q_up (addN S 2 (pk32 l)) 35 (S 1 2) v' 1 0 = S 1 0 := by rw [q_up_ne (by omega), addN_cn (by decide), if_neg (by decide)]
        rw [s10] at hr
        refine V_aload_0 d_mo_shadeTold_25 ?_
        refine V_iconst 1 d_mo_shadeTold_26 ?_
        refine V_bipush 99 d_mo_shadeTold_27 (by decide) ?_
        refine V_cvI2 d_mo_shadeTold_29 ml_mo_256 mv_mo_number (by decide) (Nat.le_of_ble_eq_true rfl) is_mo (ok_number t1 (by decide) (by decide)) ?_
        rintro x F2 ⟨t2, k2, x2, x3⟩
        have t2 : mpS F2 T N (.inr (q', d')) := by
          have t3 : mpS F2 T N (pst (l_num T N 1 99 q d)) := t2
          rw [hl] at t3; exact t3
        have x3 : x = v' := x3 v' q' d' hl
        rw [x3]
        have b2 := t2.2.2.2
        refine V_istore_3 d_mo_shadeTold_32 rfl ?_
        refine V_aload_0 d_mo_shadeTold_33 ?_
        refine V_getI d_mo_shadeTold_34 fl_mo_185 is_mo ?_
        rw [b2.1]
        refine V_if_eq 41 d_mo_shadeTold_37 (by decide) (by omega) (fun c37 => ?_) (fun c37 => by omega)
        refine V_aload_0 d_mo_shadeTold_41 ?_
        refine V_getR d_mo_shadeTold_42 fl_mo_112 is_mo r_mo_fees ?_
        refine V_iload_2 d_mo_shadeTold_45 ?_
        refine V_iload_3 d_mo_shadeTold_46 ?_
        refine V_iast d_mo_shadeTold_47 is_mo_fees (by omega) (by omega) ?_
        refine V_iconst 0 d_mo_shadeTold_48 ?_
        refine V_istore_4 d_mo_shadeTold_49 rfl ?_
        refine good51 l ln _ (S 1 0).toNat _ q' d' _ _ (by omega) (by decide) (t2.fr (fun j i hji => by rw [q_up_ne (by omega)])) ⟨fun j i a b c n => ?_, ?_, ?_, fun t a b => by omega, fun t a b => by omega, fun j i a b c => ?_⟩ hr
        · rw [q_up_ne (by omega), k2 _ _ a]; exact k1 j i a b
        · rw [q_up_ne (by omega), k2 _ _ (by omega)]; exact l1
        · rw [q_up_eq, q_up_eq]
        · rw [q_up_ne (by omega)]
    cases hn : nwN S T N p e with
    | inl e0 =>
      have hr : sShade S T N p e = .inl e0 := by unfold sShade; rw [sNew_nw, hn]; rfl
      refine V_aload_0 d_mo_shadeTold_0 ?_
      refine V_iconst 2 d_mo_shadeTold_1 ?_
      refine V_iconst 5 d_mo_shadeTold_2 ?_
      refine V_iload_1 d_mo_shadeTold_3 ?_
      refine V_cvI3 d_mo_shadeTold_4 ml_mo_267 mv_mo_isFull (by decide) (Nat.le_of_ble_eq_true rfl) is_mo (ok_isFull hT (by decide) (by decide) (by omega)) ?_
      rintro x F (⟨rfl, h1, t1, k1⟩ | ⟨rfl, h1, e1⟩)
      exact absurd (hc2.symm.trans h1) hc
      rw [e1]; clear e1 F
      refine V_if_eq 11 d_mo_shadeTold_7 (by decide) (by omega) (fun c7 => ?_) (fun c7 => by omega)
      refine V_aload_0 d_mo_shadeTold_11 ?_
      refine V_iconst 2 d_mo_shadeTold_12 ?_
      refine V_cvI1 d_mo_shadeTold_13 ml_mo_252 mv_mo_newName (by decide) (Nat.le_of_ble_eq_true rfl) is_mo (ok_newName hT hw hE.1 hW (by decide) (by omega)) ?_
      rintro x F ⟨rfl, t2, k2⟩
      have t2 : mpS F T N (.inl e0) := by
        have t3 : mpS F T N (pst (nwN S T N p e)) := t2
        rw [hn] at t3; exact t3
      have z2 := k2.z (by decide) (by omega)
      refine V_istore_2 d_mo_shadeTold_16 rfl ?_
      refine V_aload_0 d_mo_shadeTold_17 ?_
      refine V_aload_0 d_mo_shadeTold_18 ?_
      refine V_getR d_mo_shadeTold_19 fl_mo_27 is_mo r_mo_feeWord ?_
      refine V_cvV1 d_mo_shadeTold_22 ml_mo_248 mv_mo_asks (by decide) (Nat.le_of_ble_eq_true rfl) is_mo (ok_askA t2 (z2.w hw) 3 (by decide) rfl) ?_
      rintro F2 ⟨t3, k3⟩
      exact bad25 e0 hr F2 t3 (z2.tr k3.z)
    | inr u =>
      obtain ⟨l, q, d⟩ := u
      have hr : sShade S T N p e = sShade2 T N (S 1 2) (addN S 2 (pk32 l)) q d := by
        unfold sShade; rw [sNew_nw, hn]; rfl
      unfold sShade2 at hr
      have K : ∀ F : q_F, mpS F T N (.inr (q, d)) → mKn S f F 2 (nwN S T N p e) → V D C m_mo_shadeTold 17 [vr D 219, vi w, vi (S 1 2), vu, vu] [] (Zg g h) F := by
        intro F t2 k2
        obtain ⟨ln, l2⟩ := k2.2 l q d hn
        have z2 := k2.z (by decide) (by omega)
        cases hl : l_word T N 3 q d with
        | inl e0 =>
          rw [hl] at hr
          refine V_aload_0 d_mo_shadeTold_17 ?_
          refine V_aload_0 d_mo_shadeTold_18 ?_
          refine V_getR d_mo_shadeTold_19 fl_mo_27 is_mo r_mo_feeWord ?_
          refine V_cvV1 d_mo_shadeTold_22 ml_mo_248 mv_mo_asks (by decide) (Nat.le_of_ble_eq_true rfl) is_mo (ok_askA t2 (z2.w hw) 3 (by decide) rfl) ?_
          rintro F2 ⟨t3, k3⟩
          have t4 : mpS F2 T N (l_word T N 3 q d) := t3
          rw [hl] at t4
          exact bad25 e0 hr F2 t4 (z2.tr k3.z)
        | inr u =>
          obtain ⟨q', d'⟩ := u
          rw [hl] at hr
          refine V_aload_0 d_mo_shadeTold_17 ?_
          refine V_aload_0 d_mo_shadeTold_18 ?_
          refine V_getR d_mo_shadeTold_19 fl_mo_27 is_mo r_mo_feeWord ?_
          refine V_cvV1 d_mo_shadeTold_22 ml_mo_248 mv_mo_asks (by decide) (Nat.le_of_ble_eq_true rfl) is_mo (ok_askA t2 (z2.w hw) 3 (by decide) rfl) ?_
          rintro F2 ⟨t3, k3⟩
          have t4 : mpS F2 T N (l_word T N 3 q d) := t3
          rw [hl] at t4
          exact good25 l ln q' d' F2 t4 (fun j i a b => by rw [k3 j i a]; exact k2.1 j i a b) (by rw [k3 _ _ (by omega)]; exact l2) hr
      refine V_aload_0 d_mo_shadeTold_0 ?_
      refine V_iconst 2 d_mo_shadeTold_1 ?_
      refine V_iconst 5 d_mo_shadeTold_2 ?_
      refine V_iload_1 d_mo_shadeTold_3 ?_
      refine V_cvI3 d_mo_shadeTold_4 ml_mo_267 mv_mo_isFull (by decide) (Nat.le_of_ble_eq_true rfl) is_mo (ok_isFull hT (by decide) (by decide) (by omega)) ?_
      rintro x F (⟨rfl, h1, t1, k1⟩ | ⟨rfl, h1, e1⟩)
      exact absurd (hc2.symm.trans h1) hc
      rw [e1]; clear e1 F
      refine V_if_eq 11 d_mo_shadeTold_7 (by decide) (by omega) (fun c7 => ?_) (fun c7 => by omega)
      refine V_aload_0 d_mo_shadeTold_11 ?_
      refine V_iconst 2 d_mo_shadeTold_12 ?_
      refine V_cvI1 d_mo_shadeTold_13 ml_mo_252 mv_mo_newName (by decide) (Nat.le_of_ble_eq_true rfl) is_mo (ok_newName hT hw hE.1 hW (by decide) (by omega)) ?_
      rintro x F ⟨rfl, t2, k2⟩
      have t2 : mpS F T N (.inr (q, d)) := by
        have t3 : mpS F T N (pst (nwN S T N p e)) := t2
        rw [hn] at t3; exact t3
      refine V_istore_2 d_mo_shadeTold_16 rfl ?_
      exact K F t2 k2
end RN10
