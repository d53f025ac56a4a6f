/-! the reference reads rules -/
section RN13
variable {D : q_D} {f f' f'' S S' : q_F} {A : q_As} {g h : Int} {T : Int → Int} {N p e : Int} {L : List Int}
/-- what changes while a rule is read -/
def qJ (S f F : q_F) : Prop := ∀ j i, ¬ (j = 219 ∧ (i = 2 ∨ i = 4 ∨ i = 5 ∨ i = 6 ∨ i = 34 ∨ i = 48 ∨ i = 50 ∨ i = 51 ∨ i = 55)) → ¬ (j = 255 ∨ j = 256) → ¬ (257 ≤ j ∧ j ≤ 259 ∧ i = S 1 5) → F j i = f j i
theorem qJ.z {F : q_F} (h : qJ S f F) (hlt : 0 ≤ S 1 5 ∧ S 1 5 < 6) : mZ f F := fun j i n => h j i (fun b => n (by obtain ⟨rfl, b⟩ := b; exact rd219 (by omega))) (fun b => n (rd255 b)) (fun b => n (rd257 ⟨b.1, b.2.1⟩ (by omega)))
theorem qJ.mk {F F' : q_F} (h : qJ S f F) (hk : mK F F') : qJ S f F' := fun j i a b c => by rw [hk _ _ (by omega)]; exact h j i a b c
theorem qJ.mq {F F' : q_F} (h : qJ S f F) (hk : mQ F F') : qJ S f F' := fun j i a b c => by rw [hk _ _ (by omega) (by omega) (by omega)]; exact h j i a b c
theorem qJ.up {F : q_F} {k x : Int} (h : qJ S f F) (hk : k = 50 ∨ k = 51 ∨ k = 55) : qJ S f (q_up F 219 k x) := fun j i a b c => by rw [q_up_ne (by omega)]; exact h j i a b c
theorem qJ.up2 {F : q_F} {k x : Int} (h : qJ S f F) (hk : 257 ≤ k ∧ k ≤ 259) : qJ S f (q_up F k (S 1 5) x) := fun j i a b c => by rw [q_up_ne (by omega)]; exact h j i a b c
theorem mE.rule (hE : mE f S L) (hW : pW S) (hlt : S 1 5 < 6) {F S1 : q_F} {L1 : List Int} {M : Int} (hLr : 0 < S 1 5 → S 106 (S 1 5) = L.length) (hJ : ∀ j i, ¬ (j = 219 ∧ (i = 2 ∨ i = 4 ∨ i = 5 ∨ i = 6 ∨ i = 34 ∨ i = 48 ∨ i = 50 ∨ i = 51 ∨ i = 55)) → ¬ (j = 255 ∨ j = 256) → ¬ (257 ≤ j ∧ j ≤ 259 ∧ i = S 1 5) → ¬ (j = 246 ∧ i = 6) → F j i = f j i) (c : F 246 6 = S 1 5 + 1) (a1 : F 257 (S 1 5) = L.length) (a2 : F 258 (S 1 5) = M) (a3 : F 259 (S 1 5) = L1.length) (hr : rcS F L1) (s1 : S1 1 5 = S 1 5 + 1) (s6 : ∀ k, S1 106 k = if k = S 1 5 + 1 then (L1.length : Int) else if k = S 1 5 then (L.length : Int) else S 106 k) (s7 : ∀ k, S1 107 k = if k = S 1 5 then M else S 107 k) (sn : ∀ j i, ¬ j = 106 → ¬ j = 107 → ¬ (j = 1 ∧ i = 5) → S1 j i = S j i) : mE F S1 L1 := by
  have h0 := hW.1
  have h1 := hW.2.1
  have h2 := hW.2.2.1
  have h4 := hW.2.2.2.2.1
  have h5 := hW.2.2.2.2.2.1
  have cn : ∀ i, ¬ i = 5 → S1 1 i = S 1 i := fun i hi => sn _ _ (by omega) (by omega) (by omega)
  obtain ⟨m1, m2, m3, m4, m5, m6, m7, m8, m9, m10⟩ := hE
  have fr : ∀ j i, ¬ j = 219 → ¬ (255 ≤ j ∧ j ≤ 259) → ¬ (j = 246 ∧ i = 6) → F j i = f j i := fun j i a b c => hJ j i (by omega) (by omega) (by omega) c
  refine ⟨?_, ?_, ?_, ?_, ?_, ?_, ?_, ?_, ?_, hr⟩
  · exact (m1.fr (fun j k hj => fr _ _ (by omega) (by omega) (by omega)) hW).to (fun k _ _ => cn k (by omega)) (fun k w _ _ => sn _ _ (by omega) (by omega) (by omega))
  · refine ⟨?_, ?_, ?_, ?_, ?_⟩
    · rw [fr _ _ (by decide) (by decide) (by decide), cn _ (by decide)]; exact m2.1
    · rw [fr _ _ (by decide) (by decide) (by decide), cn _ (by decide)]; exact m2.2.1
    · rw [c, s1]
    · rw [hJ _ _ (by omega) (by omega) (by omega) (by omega), sn _ _ (by decide) (by decide) (by decide)]; exact m2.2.2.2.1
    · rw [hJ _ _ (by omega) (by omega) (by omega) (by omega), sn _ _ (by decide) (by decide) (by decide)]; exact m2.2.2.2.2
  · exact m3.fr (fun k => fr _ _ (by omega) (by omega) (by omega)) ⟨cn _ (by decide), fun t w a b => sn _ _ (by omega) (by omega) (by omega)⟩
  · exact m4.fr (fun k => fr _ _ (by omega) (by omega) (by omega)) ⟨cn _ (by decide), cn _ (by decide), fun t w a b => sn _ _ (by omega) (by omega) (by omega)⟩
  · exact m5.fr (fun k => ⟨fr _ _ (by omega) (by omega) (by omega), fr _ _ (by omega) (by omega) (by omega)⟩) ⟨cn _ (by decide), cn _ (by decide), fun t w a b => ⟨sn _ _ (by omega) (by omega) (by omega), sn _ _ (by omega) (by omega) (by omega)⟩⟩
  · exact m6.fr (fun k => fr _ _ (by omega) (by omega) (by omega)) ⟨cn _ (by decide), fun t => sn _ _ (by omega) (by omega) (by omega)⟩
  · exact m7.fr (fun k => fr _ _ (by omega) (by omega) (by omega)) (fun t w a b => sn _ _ (by omega) (by omega) (by omega))
  · exact m8.fr (fun k => fr _ _ (by omega) (by omega) (by omega)) ⟨cn _ (by decide), fun t w a b => sn _ _ (by omega) (by omega) (by omega)⟩
  · intro r r0 r1
    rw [s1] at r1
    rw [s6, s7, s6]
    by_cases er : r = S 1 5
    · rw [er, if_neg (by omega), if_pos rfl, if_pos rfl, if_pos rfl]; exact ⟨a1, a2, a3⟩
    · have m := m9 r r0 (by omega)
      rw [if_neg (by omega), if_neg er, if_neg er, if_neg (by omega), hJ _ _ (by omega) (by omega) (by omega) (by omega), hJ _ _ (by omega) (by omega) (by omega) (by omega), hJ _ _ (by omega) (by omega) (by omega) (by omega)]
      refine ⟨m.1, m.2.1, ?_⟩
      split
      · next e2 => rw [m.2.2, e2]; exact hLr (by omega)
      · exact m.2.2
theorem ok_priceTold (hT : mpS f T N (.inr (p, e))) (hw : mW f) (hE : mE f S L) (hW : pW S) (hL : (L.length : Int) ≤ p) (hLr : 0 < S 1 5 → S 106 (S 1 5) = L.length) {w : Int} : OkV D m_mo_priceTold [vr D 219, vi w] (Zg g h) f (fun f' => mP f f' T N (if S 1 5 < 6 then sRule S T N L p e else .inl (5, w))) := by
  have hcn := hW.2.2.2.2.2.1
  have hc6 := hE.2.1.2.2.1
  have hpr := hT.pr
  have hcd := hE.2.2.2.2.2.2.2.2.2
  refine OkV_of (L0 := [vr D 219, vi w, vu]) mi_mo_priceTold rfl rfl (Nat.le_of_ble_eq_true rfl) (fun C hR => ?_)
  by_cases hc : S 1 5 = 6
  · rw [if_neg (by omega)] at hR
    refine V_aload_0 d_mo_priceTold_0 ?_
    refine V_bipush 6 d_mo_priceTold_1 (by decide) ?_
    refine V_bipush 6 d_mo_priceTold_3 (by decide) ?_
    refine V_iload_1 d_mo_priceTold_5 ?_
    refine V_cvI3 d_mo_priceTold_6 ml_mo_267 mv_mo_isFull (by decide) (Nat.le_of_ble_eq_true rfl) is_mo (ok_isFull hT (by decide) (by decide) (by omega)) ?_
    rintro x F (⟨rfl, h1, t1, k1⟩ | ⟨rfl, h1, e1⟩)
    rotate_left
    exact absurd (hc6.trans hc) h1
    refine V_if_eq 13 d_mo_priceTold_9 (by decide) (by omega) (fun c9 => by omega) (fun c9 => ?_)
    refine V_return d_mo_priceTold_12 (hR _ ?_)
    exact ⟨k1.z, t1⟩
  · rw [if_pos (by omega)] at hR
    have hlt : 0 ≤ S 1 5 ∧ S 1 5 < 6 := by omega
    have bad94 : ∀ (e0 : Int × Int), sRule S T N L p e = .inl e0 → ∀ (F : q_F), mpS F T N (.inl e0) → qJ S f F → V D C m_mo_priceTold 94 [vr D 219, vi w, vi (S 1 5)] [] (Zg g h) F := by
      intro e0 hr F t1 z1
      rw [hr] at hR
      refine V_aload_0 d_mo_priceTold_94 ?_
      refine V_getR d_mo_priceTold_95 fl_mo_133 is_mo r_mo_testEnd ?_
      refine V_iload_2 d_mo_priceTold_98 ?_
      refine V_aload_0 d_mo_priceTold_99 ?_
      refine V_getI d_mo_priceTold_100 fl_mo_274 is_mo ?_
      refine V_iast d_mo_priceTold_103 is_mo_testEnd (by omega) (by omega) ?_
      refine V_aload_0 d_mo_priceTold_104 ?_
      refine V_getR d_mo_priceTold_105 fl_mo_93 is_mo r_mo_many ?_
      refine V_bipush 6 d_mo_priceTold_108 (by decide) ?_
      refine V_dup2 d_mo_priceTold_110 rfl rfl ?_
      refine V_iald d_mo_priceTold_111 is_mo_many (by omega) (by omega) ?_
      refine V_iconst 1 d_mo_priceTold_112 ?_
      refine V_iadd d_mo_priceTold_113 ?_
      refine V_iast d_mo_priceTold_114 is_mo_many (by omega) (by omega) ?_
      refine V_return d_mo_priceTold_115 (hR _ ?_)
      exact ⟨((z1.up2 (k := 259) (by decide)).z hlt).up (by first | exact rd219 (by omega) | exact rd246 (by omega) | exact rd247 (by omega) | exact rd248 (by omega) | exact rd249 (by omega) | exact rd250 (by omega) | exact rd251 (by omega) | exact rd252 (by omega) | exact rd253 (by omega) | exact rd254 (by omega) | exact rd257 (by omega) (by omega)), t1.fr (fun j i hji => by rw [q_up_ne (by omega), q_up_ne (by omega)])⟩
    have bad68 : ∀ (e0 : Int × Int), sRule S T N L p e = .inl e0 → ∀ (F : q_F), mpS F T N (.inl e0) → qJ S f F → V D C m_mo_priceTold 68 [vr D 219, vi w, vi (S 1 5)] [] (Zg g h) F := by
      intro e0 hr F t1 z1
      have t2 : mpS (q_up (q_up (q_up F 219 50 0) 219 51 0) 219 55 0) T N (.inl e0) := t1.fr (fun j i hji => by rw [q_up_ne (by omega), q_up_ne (by omega), q_up_ne (by omega)])
      have b2 := t2.2.2.2.1
      have b3 := t2.2.2.2.2.2
      refine V_aload_0 d_mo_priceTold_68 ?_
      refine V_iconst 0 d_mo_priceTold_69 ?_
      refine V_putI d_mo_priceTold_70 fl_mo_277 is_mo ?_
      refine V_aload_0 d_mo_priceTold_73 ?_
      refine V_iconst 0 d_mo_priceTold_74 ?_
      refine V_putI d_mo_priceTold_75 fl_mo_280 is_mo ?_
      refine V_aload_0 d_mo_priceTold_78 ?_
      refine V_iconst 0 d_mo_priceTold_79 ?_
      refine V_putI d_mo_priceTold_80 fl_mo_283 is_mo ?_
      refine V_aload_0 d_mo_priceTold_83 ?_
      refine V_getI d_mo_priceTold_84 fl_mo_185 is_mo ?_
      rw [b2]
      refine V_if_ne 94 d_mo_priceTold_87 (by decide) (by omega) (fun c87 => ?_) (fun c87 => by omega)
      exact bad94 e0 hr _ t2 (((z1.up (by decide)).up (by decide)).up (by decide))
    have bad60 : ∀ (e0 : Int × Int), sRule S T N L p e = .inl e0 → ∀ (F : q_F), mpS F T N (.inl e0) → qJ S f F → V D C m_mo_priceTold 60 [vr D 219, vi w, vi (S 1 5)] [] (Zg g h) F := by
      intro e0 hr F t1 z1
      refine V_aload_0 d_mo_priceTold_60 ?_
      refine V_aload_0 d_mo_priceTold_61 ?_
      refine V_getR d_mo_priceTold_62 fl_mo_60 is_mo r_mo_whenWord ?_
      refine V_cvV1 d_mo_priceTold_65 ml_mo_248 mv_mo_asks (by decide) (Nat.le_of_ble_eq_true rfl) is_mo (ok_askA t1 ((z1.z hlt).w hw) 14 (by decide) rfl) ?_
      rintro F2 ⟨t2, k2⟩
      exact bad68 e0 hr _ t2 (z1.mk k2)
    have good94 : ∀ (M q d : Int) (L1 : List Int) (F S1 : q_F), mpS F T N (.inr (q, d)) → qJ S f F → F 257 (S 1 5) = L.length → F 258 (S 1 5) = M → rcS F L1 → S1 1 5 = S 1 5 + 1 → (∀ k, S1 106 k = if k = S 1 5 + 1 then (L1.length : Int) else if k = S 1 5 then (L.length : Int) else S 106 k) → (∀ k, S1 107 k = if k = S 1 5 then M else S 107 k) → (∀ j i, ¬ j = 106 → ¬ j = 107 → ¬ (j = 1 ∧ i = 5) → S1 j i = S j i) → sRule S T N L p e = .inr (S1, L1, q, d) → V D C m_mo_priceTold 94 [vr D 219, vi w, vi (S 1 5)] [] (Zg g h) F := by
      intro M q d L1 F S1 t1 j1 a1 a2 rc s1 s6 s7 sn hr
      rw [hr] at hR
      have c6 : F 246 6 = S 1 5 := by rw [j1 _ _ (by omega) (by omega) (by omega)]; exact hc6
      have rc1 := rc.1
      refine V_aload_0 d_mo_priceTold_94 ?_
      refine V_getR d_mo_priceTold_95 fl_mo_133 is_mo r_mo_testEnd ?_
      refine V_iload_2 d_mo_priceTold_98 ?_
      refine V_aload_0 d_mo_priceTold_99 ?_
      refine V_getI d_mo_priceTold_100 fl_mo_274 is_mo ?_
      refine V_iast d_mo_priceTold_103 is_mo_testEnd (by omega) (by omega) ?_
      refine V_aload_0 d_mo_priceTold_104 ?_
      refine V_getR d_mo_priceTold_105 fl_mo_93 is_mo r_mo_many ?_
      refine V_bipush 6 d_mo_priceTold_108 (by decide) ?_
      refine V_dup2 d_mo_priceTold_110 rfl rfl ?_
      refine V_iald d_mo_priceTold_111 is_mo_many (by omega) (by omega) ?_
      rw [q_up_ne (by omega), c6]
      refine V_iconst 1 d_mo_priceTold_112 ?_
      refine V_iadd d_mo_priceTold_113 ?_
      refine V_iast d_mo_priceTold_114 is_mo_many (by omega) (by omega) ?_
      refine V_return d_mo_priceTold_115 (hR _ ?_)
      refine ⟨((j1.up2 (k := 259) (by decide)).z hlt).up (by first | exact rd219 (by omega) | exact rd246 (by omega) | exact rd247 (by omega) | exact rd248 (by omega) | exact rd249 (by omega) | exact rd250 (by omega) | exact rd251 (by omega) | exact rd252 (by omega) | exact rd253 (by omega) | exact rd254 (by omega) | exact rd257 (by omega) (by omega)), t1.fr (fun j i hji => by rw [q_up_ne (by omega), q_up_ne (by omega)]), ?_⟩
      refine hE.rule hW hlt.2 (M := M) hLr (fun j i a b c d => ?_) (q_up_eq _ _ _ _) ?_ ?_ ?_ ?_ s1 s6 s7 sn
      · rw [q_up_ne (by omega), q_up_ne (by omega)]; exact j1 j i a b c
      · rw [q_up_ne (by omega), q_up_ne (by omega)]; exact a1
      · rw [q_up_ne (by omega), q_up_ne (by omega)]; exact a2
      · rw [q_up_ne (by omega), q_up_eq]; exact rc1
      · exact rc.fr (fun j i hj => by rw [q_up_ne (by omega), q_up_ne (by omega)])
    have good68 : ∀ (q d : Int) (L1 : List Int) (F : q_F), mpS F T N (.inr (q, d)) → qJ S f F → F 257 (S 1 5) = L.length → F 258 (S 1 5) = L1.length → rcS F L1 → (L1.length : Int) ≤ q → sRule S T N L p e = sRu3 T N (q_up S 106 (S 1 5) L.length) L1 q d → V D C m_mo_priceTold 68 [vr D 219, vi w, vi (S 1 5)] [] (Zg g h) F := by
      intro q d L1 F t1 j1 a1 a2 rc hl1 hr
      have hq := t1.pr
      have t2 : mpS (q_up (q_up (q_up F 219 50 0) 219 51 0) 219 55 0) T N (.inr (q, d)) := t1.fr (fun j i hji => by rw [q_up_ne (by omega), q_up_ne (by omega), q_up_ne (by omega)])
      have j2 : qJ S f (q_up (q_up (q_up F 219 50 0) 219 51 0) 219 55 0) := ((j1.up (by decide)).up (by decide)).up (by decide)
      have b2 := t2.2.2.2.1
      have hM2 : mR (q_up (q_up (q_up F 219 50 0) 219 51 0) 219 55 0) T N [] L1 0 q d := by
        refine ⟨t2, ⟨?_, fun i hi => absurd hi (Nat.not_lt_zero _), fun x hx => by cases hx⟩, rc.fr (fun j i hj => by rw [q_up_ne (by omega), q_up_ne (by omega), q_up_ne (by omega)]), ?_, by simpa using hl1⟩
        · rw [q_up_ne (by omega), q_up_ne (by omega), q_up_eq]; rfl
        · rw [q_up_ne (by omega), q_up_eq]
      have A1 : q_up (q_up (q_up F 219 50 0) 219 51 0) 219 55 0 257 (S 1 5) = L.length := by rw [q_up_ne (by omega), q_up_ne (by omega), q_up_ne (by omega)]; exact a1
      have A2 : q_up (q_up (q_up F 219 50 0) 219 51 0) 219 55 0 258 (S 1 5) = L1.length := by rw [q_up_ne (by omega), q_up_ne (by omega), q_up_ne (by omega)]; exact a2
      generalize hG : q_up (q_up (q_up F 219 50 0) 219 51 0) 219 55 0 = G at *
      unfold sRu3 at hr
      have hrd := rq_ok (T := T) (e := d) (mode := 8) (p := q) hq.2.2.2.1.2 (by decide) (by omega) (by omega)
      cases hl : rq T N 8 q d with
      | inl e0 =>
        rw [hl] at hr hrd
        refine V_aload_0 d_mo_priceTold_68 ?_
        refine V_iconst 0 d_mo_priceTold_69 ?_
        refine V_putI d_mo_priceTold_70 fl_mo_277 is_mo ?_
        refine V_aload_0 d_mo_priceTold_73 ?_
        refine V_iconst 0 d_mo_priceTold_74 ?_
        refine V_putI d_mo_priceTold_75 fl_mo_280 is_mo ?_
        refine V_aload_0 d_mo_priceTold_78 ?_
        refine V_iconst 0 d_mo_priceTold_79 ?_
        refine V_putI d_mo_priceTold_80 fl_mo_283 is_mo ?_
        rw [hG]
        refine V_aload_0 d_mo_priceTold_83 ?_
        refine V_getI d_mo_priceTold_84 fl_mo_185 is_mo ?_
        rw [b2]
        refine V_if_ne 94 d_mo_priceTold_87 (by decide) (by omega) (fun c87 => by omega) (fun c87 => ?_)
        refine V_aload_0 d_mo_priceTold_90 ?_
        refine V_cvV0 d_mo_priceTold_91 ml_mo_289 mv_mo_test (by decide) (Nat.le_of_ble_eq_true rfl) is_mo (ok_test hM2 ((j2.z hlt).w hw) hrd) ?_
        rintro F3 ⟨t3, k3⟩
        have t3 : mBf F3 T N e0 := t3
        exact bad94 e0 hr _ t3.1 (j2.mq k3)
      | inr u =>
        obtain ⟨c, q', d'⟩ := u
        rw [hl] at hr hrd
        refine V_aload_0 d_mo_priceTold_68 ?_
        refine V_iconst 0 d_mo_priceTold_69 ?_
        refine V_putI d_mo_priceTold_70 fl_mo_277 is_mo ?_
        refine V_aload_0 d_mo_priceTold_73 ?_
        refine V_iconst 0 d_mo_priceTold_74 ?_
        refine V_putI d_mo_priceTold_75 fl_mo_280 is_mo ?_
        refine V_aload_0 d_mo_priceTold_78 ?_
        refine V_iconst 0 d_mo_priceTold_79 ?_
        refine V_putI d_mo_priceTold_80 fl_mo_283 is_mo ?_
        rw [hG]
        refine V_aload_0 d_mo_priceTold_83 ?_
        refine V_getI d_mo_priceTold_84 fl_mo_185 is_mo ?_
        rw [b2]
        refine V_if_ne 94 d_mo_priceTold_87 (by decide) (by omega) (fun c87 => by omega) (fun c87 => ?_)
        refine V_aload_0 d_mo_priceTold_90 ?_
        refine V_cvV0 d_mo_priceTold_91 ml_mo_289 mv_mo_test (by decide) (Nat.le_of_ble_eq_true rfl) is_mo (ok_test hM2 ((j2.z hlt).w hw) hrd) ?_
        rintro F3 ⟨t3, k3⟩
        have t3 : mpS F3 T N (.inr (q', d')) ∧ rcS F3 (L1 ++ c) ∧ (((L1 ++ c).length : Int) ≤ q') := t3
        refine good94 L1.length q' d' (L1 ++ c) F3 _ t3.1 (j2.mq k3) (by rw [k3 _ _ (by omega) (by omega) (by omega)]; exact A1) (by rw [k3 _ _ (by omega) (by omega) (by omega)]; exact A2) t3.2.1 ?_ (fun k => ?_) (fun k => ?_) (fun j i a b c => ?_) hr
        · rw [q_up_eq, q_up_ne (by omega), q_up_ne (by omega)]
        · have e1 : q_up (q_up S 106 (S 1 5) L.length) 107 (q_up S 106 (S 1 5) L.length 1 5) L1.length 1 5 = S 1 5 := by rw [q_up_ne (by omega), q_up_ne (by omega)]
          rw [e1, q_up_ne (by omega)]
          by_cases ek : k = S 1 5 + 1
          · rw [ek, if_pos rfl, q_up_eq]
          · rw [if_neg ek, q_up_ne (by omega), q_up_ne (by omega)]
            by_cases ek2 : k = S 1 5
            · rw [ek2, if_pos rfl, q_up_eq]
            · rw [if_neg ek2, q_up_ne (by omega)]
        · have e1 : q_up S 106 (S 1 5) L.length 1 5 = S 1 5 := q_up_ne (by omega)
          rw [q_up_ne (by omega), q_up_ne (by omega), e1]
          by_cases ek : k = S 1 5
          · rw [ek, if_pos rfl, q_up_eq]
          · rw [if_neg ek, q_up_ne (by omega), q_up_ne (by omega)]
        · rw [q_up_ne (by omega), q_up_ne (by omega), q_up_ne (by omega), q_up_ne (by omega)]
    have good60 : ∀ (q d : Int) (L1 : List Int) (F : q_F), mpS F T N (.inr (q, d)) → qJ S f F → F 257 (S 1 5) = L.length → F 258 (S 1 5) = L1.length → rcS F L1 → (L1.length : Int) ≤ q → sRule S T N L p e = sRu2 T N (q_up S 106 (S 1 5) L.length) L1 q d → V D C m_mo_priceTold 60 [vr D 219, vi w, vi (S 1 5)] [] (Zg g h) F := by
      intro q d L1 F t1 j1 a1 a2 rc hl1 hr
      have hq := t1.pr
      unfold sRu2 at hr
      cases hl : l_word T N 14 q d with
      | inl e0 =>
        rw [hl] at hr
        refine V_aload_0 d_mo_priceTold_60 ?_
        refine V_aload_0 d_mo_priceTold_61 ?_
        refine V_getR d_mo_priceTold_62 fl_mo_60 is_mo r_mo_whenWord ?_
        refine V_cvV1 d_mo_priceTold_65 ml_mo_248 mv_mo_asks (by decide) (Nat.le_of_ble_eq_true rfl) is_mo (ok_askA t1 ((j1.z hlt).w hw) 14 (by decide) rfl) ?_
        rintro F2 ⟨t2, k2⟩
        have t2 : mpS F2 T N (l_word T N 14 q d) := t2
        rw [hl] at t2
        exact bad68 e0 hr _ t2 (j1.mk k2)
      | inr u =>
        obtain ⟨q', d'⟩ := u
        have hge := l_word_ge (q := 0) (d := 0) (by decide) hq.2.1 hl
        simp only at hge
        rw [hl] at hr
        refine V_aload_0 d_mo_priceTold_60 ?_
        refine V_aload_0 d_mo_priceTold_61 ?_
        refine V_getR d_mo_priceTold_62 fl_mo_60 is_mo r_mo_whenWord ?_
        refine V_cvV1 d_mo_priceTold_65 ml_mo_248 mv_mo_asks (by decide) (Nat.le_of_ble_eq_true rfl) is_mo (ok_askA t1 ((j1.z hlt).w hw) 14 (by decide) rfl) ?_
        rintro F2 ⟨t2, k2⟩
        have t2 : mpS F2 T N (l_word T N 14 q d) := t2
        rw [hl] at t2
        exact good68 q' d' L1 F2 t2 (j1.mk k2) (by rw [k2 _ _ (by omega)]; exact a1) (by rw [k2 _ _ (by omega)]; exact a2) (rc.fr (fun j i hj => k2 _ _ (by omega))) (by omega) hr
    have q0 : qJ S f f := fun _ _ _ _ _ => rfl
    have t2 : mpS (q_up (q_up (q_up (q_up f 257 (S 1 5) L.length) 219 50 0) 219 51 0) 219 55 0) T N (.inr (p, e)) := hT.fr (fun j i hji => by rw [q_up_ne (by omega), q_up_ne (by omega), q_up_ne (by omega), q_up_ne (by omega)])
    have j2 : qJ S f (q_up (q_up (q_up (q_up f 257 (S 1 5) L.length) 219 50 0) 219 51 0) 219 55 0) := (((q0.up2 (k := 257) (by decide)).up (by decide)).up (by decide)).up (by decide)
    have hM2 : mR (q_up (q_up (q_up (q_up f 257 (S 1 5) L.length) 219 50 0) 219 51 0) 219 55 0) T N [] L 0 p e := by
      refine ⟨t2, ⟨?_, fun i hi => absurd hi (Nat.not_lt_zero _), fun x hx => by cases hx⟩, hcd.fr (fun j i hj => by rw [q_up_ne (by omega), q_up_ne (by omega), q_up_ne (by omega), q_up_ne (by omega)]), ?_, by simpa using hL⟩
      · rw [q_up_ne (by omega), q_up_ne (by omega), q_up_eq]; rfl
      · rw [q_up_ne (by omega), q_up_eq]
    have A1 : q_up (q_up (q_up (q_up f 257 (S 1 5) L.length) 219 50 0) 219 51 0) 219 55 0 257 (S 1 5) = L.length := by rw [q_up_ne (by omega), q_up_ne (by omega), q_up_ne (by omega), q_up_eq]
    generalize hG : q_up (q_up (q_up (q_up f 257 (S 1 5) L.length) 219 50 0) 219 51 0) 219 55 0 = G at *
    have hrd := rq_ok (T := T) (e := e) (mode := 3) (p := p) hpr.2.2.2.1.2 (by decide) (by omega) (by omega)
    have hr0 : sRule S T N L p e = rb (rq T N 3 p e) (fun s => sRu2 T N (q_up S 106 (S 1 5) L.length) (L ++ s.1) s.2.1 s.2.2) := rfl
    have ltop : topN isAr ([] : List Int) := by intro x U hx; cases hx
    cases hl : rq T N 3 p e with
    | inl e0 =>
      rw [hl] at hr0 hrd
      refine V_aload_0 d_mo_priceTold_0 ?_
      refine V_bipush 6 d_mo_priceTold_1 (by decide) ?_
      refine V_bipush 6 d_mo_priceTold_3 (by decide) ?_
      refine V_iload_1 d_mo_priceTold_5 ?_
      refine V_cvI3 d_mo_priceTold_6 ml_mo_267 mv_mo_isFull (by decide) (Nat.le_of_ble_eq_true rfl) is_mo (ok_isFull hT (by decide) (by decide) (by omega)) ?_
      rintro x F (⟨rfl, h1, t1, k1⟩ | ⟨rfl, h1, e1⟩)
      exact absurd (hc6.symm.trans h1) hc
      rw [e1]; clear e1 F
      refine V_if_eq 13 d_mo_priceTold_9 (by decide) (by omega) (fun c9 => ?_) (fun c9 => by omega)
      refine V_aload_0 d_mo_priceTold_13 ?_
      refine V_getR d_mo_priceTold_14 fl_mo_93 is_mo r_mo_many ?_
      refine V_bipush 6 d_mo_priceTold_17 (by decide) ?_
      refine V_iald d_mo_priceTold_19 is_mo_many (by omega) (by omega) ?_
      rw [hc6]
      refine V_istore_2 d_mo_priceTold_20 rfl ?_
      refine V_aload_0 d_mo_priceTold_21 ?_
      refine V_getR d_mo_priceTold_22 fl_mo_127 is_mo r_mo_sumFrom ?_
      refine V_iload_2 d_mo_priceTold_25 ?_
      refine V_aload_0 d_mo_priceTold_26 ?_
      refine V_getI d_mo_priceTold_27 fl_mo_274 is_mo ?_
      rw [hcd.1]
      refine V_iast d_mo_priceTold_30 is_mo_sumFrom (by omega) (by omega) ?_
      refine V_aload_0 d_mo_priceTold_31 ?_
      refine V_iconst 0 d_mo_priceTold_32 ?_
      refine V_putI d_mo_priceTold_33 fl_mo_277 is_mo ?_
      refine V_aload_0 d_mo_priceTold_36 ?_
      refine V_iconst 0 d_mo_priceTold_37 ?_
      refine V_putI d_mo_priceTold_38 fl_mo_280 is_mo ?_
      refine V_aload_0 d_mo_priceTold_41 ?_
      refine V_iconst 0 d_mo_priceTold_42 ?_
      refine V_putI d_mo_priceTold_43 fl_mo_283 is_mo ?_
      rw [hG]
      refine V_aload_0 d_mo_priceTold_46 ?_
      refine V_cvV0 d_mo_priceTold_47 ml_mo_286 mv_mo_sumsTold (by decide) (Nat.le_of_ble_eq_true rfl) is_mo (ok_sumsTold hM2 (by decide) ltop ((j2.z hlt).w hw) hrd) ?_
      rintro F3 ⟨t3, k3⟩
      have t3 : mBd F3 T N e0 := t3
      refine V_aload_0 d_mo_priceTold_50 ?_
      refine V_getR d_mo_priceTold_51 fl_mo_130 is_mo r_mo_sumEnd ?_
      refine V_iload_2 d_mo_priceTold_54 ?_
      refine V_aload_0 d_mo_priceTold_55 ?_
      refine V_getI d_mo_priceTold_56 fl_mo_274 is_mo ?_
      refine V_iast d_mo_priceTold_59 is_mo_sumEnd (by omega) (by omega) ?_
      exact bad60 e0 hr0 _ (t3.1.fr (fun j i hji => by rw [q_up_ne (by omega)])) ((j2.mq k3).up2 (k := 258) (by decide))
    | inr u =>
      obtain ⟨c, q', d'⟩ := u
      rw [hl] at hr0 hrd
      refine V_aload_0 d_mo_priceTold_0 ?_
      refine V_bipush 6 d_mo_priceTold_1 (by decide) ?_
      refine V_bipush 6 d_mo_priceTold_3 (by decide) ?_
      refine V_iload_1 d_mo_priceTold_5 ?_
      refine V_cvI3 d_mo_priceTold_6 ml_mo_267 mv_mo_isFull (by decide) (Nat.le_of_ble_eq_true rfl) is_mo (ok_isFull hT (by decide) (by decide) (by omega)) ?_
      rintro x F (⟨rfl, h1, t1, k1⟩ | ⟨rfl, h1, e1⟩)
      exact absurd (hc6.symm.trans h1) hc
      rw [e1]; clear e1 F
      refine V_if_eq 13 d_mo_priceTold_9 (by decide) (by omega) (fun c9 => ?_) (fun c9 => by omega)
      refine V_aload_0 d_mo_priceTold_13 ?_
      refine V_getR d_mo_priceTold_14 fl_mo_93 is_mo r_mo_many ?_
      refine V_bipush 6 d_mo_priceTold_17 (by decide) ?_
      refine V_iald d_mo_priceTold_19 is_mo_many (by omega) (by omega) ?_
      rw [hc6]
      refine V_istore_2 d_mo_priceTold_20 rfl ?_
      refine V_aload_0 d_mo_priceTold_21 ?_
      refine V_getR d_mo_priceTold_22 fl_mo_127 is_mo r_mo_sumFrom ?_
      refine V_iload_2 d_mo_priceTold_25 ?_
      refine V_aload_0 d_mo_priceTold_26 ?_
      refine V_getI d_mo_priceTold_27 fl_mo_274 is_mo ?_
      rw [hcd.1]
      refine V_iast d_mo_priceTold_30 is_mo_sumFrom (by omega) (by omega) ?_
      refine V_aload_0 d_mo_priceTold_31 ?_
      refine V_iconst 0 d_mo_priceTold_32 ?_
      refine V_putI d_mo_priceTold_33 fl_mo_277 is_mo ?_
      refine V_aload_0 d_mo_priceTold_36 ?_
      refine V_iconst 0 d_mo_priceTold_37 ?_
      refine V_putI d_mo_priceTold_38 fl_mo_280 is_mo ?_
      refine V_aload_0 d_mo_priceTold_41 ?_
      refine V_iconst 0 d_mo_priceTold_42 ?_
      refine V_putI d_mo_priceTold_43 fl_mo_283 is_mo ?_
      rw [hG]
      refine V_aload_0 d_mo_priceTold_46 ?_
      refine V_cvV0 d_mo_priceTold_47 ml_mo_286 mv_mo_sumsTold (by decide) (Nat.le_of_ble_eq_true rfl) is_mo (ok_sumsTold hM2 (by decide) ltop ((j2.z hlt).w hw) hrd) ?_
      rintro F3 ⟨t3, k3⟩
      have t3 : mR F3 T N [] (L ++ c) 0 q' d' := t3
      have r3 := t3.2.2.1.1
      have l3 := t3.2.2.2.2
      refine V_aload_0 d_mo_priceTold_50 ?_
      refine V_getR d_mo_priceTold_51 fl_mo_130 is_mo r_mo_sumEnd ?_
      refine V_iload_2 d_mo_priceTold_54 ?_
      refine V_aload_0 d_mo_priceTold_55 ?_
      refine V_getI d_mo_priceTold_56 fl_mo_274 is_mo ?_
      rw [r3]
      refine V_iast d_mo_priceTold_59 is_mo_sumEnd (by omega) (by omega) ?_
      refine good60 q' d' (L ++ c) _ (t3.1.fr (fun j i hji => by rw [q_up_ne (by omega)])) ((j2.mq k3).up2 (k := 258) (by decide)) ?_ (q_up_eq _ _ _ _) (t3.2.2.1.fr (fun j i hj => by rw [q_up_ne (by omega)])) (by simpa using l3) hr0
      rw [q_up_ne (by omega), k3 _ _ (by omega) (by omega) (by omega)]; exact A1
end RN13
