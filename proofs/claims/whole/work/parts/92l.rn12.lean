/-! the reference reads traits -/
/-- a statement and the sign behind it -/
def sEnd (T : Int → Int) (N : Int) (r : q_PR) : q_PR := rb r (fun s => rb (l_sign T N 59 s.2.2.1 s.2.2.2) (fun u => .inr (q_up s.1 0 13 (s.1 0 13 + 1), s.2.1, u.1, u.2)))
section RN12
variable {D : q_D} {f f' f'' S S' : q_F} {A : q_As} {g h : Int} {T : Int → Int} {N p e : Int} {L : List Int}
theorem mE.mk (hE : mE f S L) (hW : pW S) (hk : mK f f') : mE f' S L := by
  obtain ⟨m1, m2, m3, m4, m5, m6, m7, m8, m9, m10⟩ := hE
  refine ⟨hk.n m1 hW, ⟨?_, ?_, ?_, ?_, ?_⟩, m3.fr (fun k => hk _ _ (by omega)) ⟨rfl, fun _ _ _ _ => rfl⟩, m4.fr (fun k => hk _ _ (by omega)) ⟨rfl, rfl, fun _ _ _ _ => rfl⟩, m5.fr (fun k => ⟨hk _ _ (by omega), hk _ _ (by omega)⟩) ⟨rfl, rfl, fun _ _ _ _ => ⟨rfl, rfl⟩⟩, m6.fr (fun k => hk _ _ (by omega)) ⟨rfl, fun _ => rfl⟩, m7.fr (fun k => hk _ _ (by omega)) (fun _ _ _ _ => rfl), m8.fr (fun k => hk _ _ (by omega)) ⟨rfl, fun _ _ _ _ => rfl⟩, m9.fr (fun k => ⟨hk _ _ (by omega), hk _ _ (by omega), hk _ _ (by omega)⟩) ⟨rfl, fun _ => ⟨rfl, rfl⟩⟩, m10.fr (fun j k hj => hk _ _ (by omega))⟩
  · rw [hk _ _ (by decide)]; exact m2.1
  · rw [hk _ _ (by decide)]; exact m2.2.1
  · rw [hk _ _ (by decide)]; exact m2.2.2.1
  · rw [hk _ _ (by decide)]; exact m2.2.2.2.1
  · rw [hk _ _ (by decide)]; exact m2.2.2.2.2
/-- statements, the tithe -/
theorem mE.stm (hE : mE f S L) (hW : pW S) {F : q_F} {x y : Int} (hy : y = 13 ∨ y = 14) (fr : ∀ j i, ¬ (j = 219 ∧ (i = 2 ∨ i = 4 ∨ i = 5 ∨ i = 6 ∨ i = 34)) → ¬ (j = 219 ∧ (i = 46 ∧ y = 13 ∨ i = 44 ∧ y = 14)) → F j i = f j i) (hF : F 219 (if y = 13 then 46 else 44) = x) : mE F (q_up S 0 y x) L := by
  have h1 : ∀ i, q_up S 0 y x 1 i = S 1 i := fun i => q_up_ne (by omega)
  have hs : ∀ j i, ¬ j = 0 → q_up S 0 y x j i = S j i := fun j i hj => q_up_ne (by omega)
  have h4 := hW.2.2.2.2.1
  have h2 := hW.2.2.1
  have h11 := hW.2.1
  have h0 := hW.1
  obtain ⟨m1, m2, m3, m4, m5, m6, m7, m8, m9, m10⟩ := hE
  refine ⟨(m1.fr (fun j k hj => fr j k (by omega) (by omega)) hW).to (fun k _ _ => h1 k) (fun k w _ _ => hs _ _ (by omega)), ⟨?_, ?_, ?_, ?_, ?_⟩, m3.fr (fun k => fr _ _ (by omega) (by omega)) ⟨h1 _, fun _ _ _ _ => hs _ _ (by omega)⟩, m4.fr (fun k => fr _ _ (by omega) (by omega)) ⟨h1 _, h1 _, fun _ _ _ _ => hs _ _ (by omega)⟩, m5.fr (fun k => ⟨fr _ _ (by omega) (by omega), fr _ _ (by omega) (by omega)⟩) ⟨h1 _, h1 _, fun _ _ _ _ => ⟨hs _ _ (by omega), hs _ _ (by omega)⟩⟩, m6.fr (fun k => fr _ _ (by omega) (by omega)) ⟨h1 _, fun _ => hs _ _ (by omega)⟩, m7.fr (fun k => fr _ _ (by omega) (by omega)) (fun _ _ _ _ => hs _ _ (by omega)), m8.fr (fun k => fr _ _ (by omega) (by omega)) ⟨h1 _, fun _ _ _ _ => hs _ _ (by omega)⟩, m9.fr (fun k => ⟨fr _ _ (by omega) (by omega), fr _ _ (by omega) (by omega), fr _ _ (by omega) (by omega)⟩) ⟨h1 _, fun _ => ⟨hs _ _ (by omega), hs _ _ (by omega)⟩⟩, m10.fr (fun j k hj => fr _ _ (by omega) (by omega))⟩
  · rw [fr _ _ (by decide) (by omega), h1]; exact m2.1
  · rw [fr _ _ (by decide) (by omega), h1]; exact m2.2.1
  · rw [fr _ _ (by decide) (by omega), h1]; exact m2.2.2.1
  · rcases hy with e1 | e1
    · subst e1; rw [fr _ _ (by decide) (by omega), q_up_ne (by omega)]; exact m2.2.2.2.1
    · subst e1; rw [q_up_eq]; exact hF
  · rcases hy with e1 | e1
    · subst e1; rw [q_up_eq]; exact hF
    · subst e1; rw [fr _ _ (by decide) (by omega), q_up_ne (by omega)]; exact m2.2.2.2.2
theorem mE.trait (hE : mE f S L) (hW : pW S) (h1 : S 1 1 = 0) (h2 : S 1 2 = 0) (hlt : S 1 0 < 6) {F : q_F} {l : List Int} (ln : isNm l) {v1 v2 : Int} (fr : ∀ j i, ¬ (j = 219 ∧ (i = 2 ∨ i = 4 ∨ i = 5 ∨ i = 6 ∨ i = 34)) → ¬ (j = 247 ∧ i = 8 * 0 + S 1 0) → ¬ (j = 248 ∧ (i = S 1 0 ∨ i = 6 + S 1 0)) → ¬ (j = 246 ∧ i = 0) → F j i = f j i) (l2 : F 247 (8 * 0 + S 1 0) = pk27 l) (c : F 246 0 = S 1 0 + 1) (a1 : F 248 (S 1 0) = v1) (a2 : F 248 (6 + S 1 0) = v2) : mE F (q_up (q_up (addN S 0 (pk32 l)) (8 + S 1 0) 0 v1) (8 + S 1 0) 1 v2) L := by
  have h0 := hW.1
  have h4 := hW.2.2.2.2.1
  have hs : ∀ j i, ¬ j = 8 + S 1 0 → q_up (q_up (addN S 0 (pk32 l)) (8 + S 1 0) 0 v1) (8 + S 1 0) 1 v2 j i = addN S 0 (pk32 l) j i := fun j i hj => by rw [q_up_ne (by omega), q_up_ne (by omega)]
  have cn : ∀ i, ¬ i = 0 → q_up (q_up (addN S 0 (pk32 l)) (8 + S 1 0) 0 v1) (8 + S 1 0) 1 v2 1 i = S 1 i := fun i hi => by rw [hs _ _ (by omega), addN_cn (by decide), if_neg hi]
  have c1 : q_up (q_up (addN S 0 (pk32 l)) (8 + S 1 0) 0 v1) (8 + S 1 0) 1 v2 1 0 = S 1 0 + 1 := by rw [hs _ _ (by omega), addN_cn (by decide), if_pos rfl]
  have an : ∀ j i, ¬ j = 8 + S 1 0 → ¬ (j = 1 ∧ 0 ≤ i ∧ i < 4) ∧ ¬ (3 ≤ j ∧ j < 7) → q_up (q_up (addN S 0 (pk32 l)) (8 + S 1 0) 0 v1) (8 + S 1 0) 1 v2 j i = S j i := fun j i a b => by rw [hs j i a]; exact addN_ne (by decide) b
  have w0 : q_up (q_up (addN S 0 (pk32 l)) (8 + S 1 0) 0 v1) (8 + S 1 0) 1 v2 (8 + S 1 0) 0 = v1 := by rw [q_up_ne (by omega), q_up_eq]
  have w1 : q_up (q_up (addN S 0 (pk32 l)) (8 + S 1 0) 0 v1) (8 + S 1 0) 1 v2 (8 + S 1 0) 1 = v2 := by rw [q_up_eq]
  generalize q_up (q_up (addN S 0 (pk32 l)) (8 + S 1 0) 0 v1) (8 + S 1 0) 1 v2 = S1 at *
  obtain ⟨m1, m2, m3, m4, m5, m6, m7, m8, m9, m10⟩ := hE
  refine ⟨?_, ?_, ?_, ?_, ?_, ?_, ?_, ?_, ?_, ?_⟩
  · refine m1.add hW (k := 0) (by decide) ln (fun i a b => ?_) (fun i a => ?_) (by omega) (fun i w a => hs _ _ (by omega))
    · split
      · next e => rw [e]; exact c
      · next e => rw [fr _ _ (by omega) (by omega) (by omega) (by omega)]
    · split
      · next e => rw [e]; exact l2
      · next e => exact fr _ _ (by omega) (by omega) (by omega) (by omega)
  · refine ⟨?_, ?_, ?_, ?_, ?_⟩
    · rw [fr _ _ (by decide) (by omega) (by omega) (by decide), cn _ (by decide)]; exact m2.1
    · rw [fr _ _ (by decide) (by omega) (by omega) (by decide), cn _ (by decide)]; exact m2.2.1
    · rw [fr _ _ (by decide) (by omega) (by omega) (by decide), cn _ (by decide)]; exact m2.2.2.1
    · rw [fr _ _ (by decide) (by omega) (by omega) (by decide), an _ _ (by omega) (by decide)]; exact m2.2.2.2.1
    · rw [fr _ _ (by decide) (by omega) (by omega) (by decide), an _ _ (by omega) (by decide)]; exact m2.2.2.2.2
  · intro t w a b cc d
    rw [c1] at b
    by_cases et : t = S 1 0
    · rcases (show w = 0 ∨ w = 1 by omega) with e1 | e1
      · rw [e1, et, w0, show (6 : Int) * 0 + S 1 0 = S 1 0 by omega]; exact a1
      · rw [e1, et, w1, show (6 : Int) * 1 + S 1 0 = 6 + S 1 0 by omega]; exact a2
    · rw [fr _ _ (by omega) (by omega) (by omega) (by omega), an _ _ (by omega) (by omega)]; exact m3 t w a (by omega) cc d
  · intro q t a b; rw [cn _ (by decide), h1] at b; omega
  · intro q t a b; rw [cn _ (by decide), h2] at b; omega
  · exact m6.fr (fun k => fr _ _ (by omega) (by omega) (by omega) (by omega)) ⟨cn _ (by decide), fun t => an _ _ (by omega) (by omega)⟩
  · exact m7.fr (fun k => fr _ _ (by omega) (by omega) (by omega) (by omega)) (fun t w a b => an _ _ (by omega) (by omega))
  · exact m8.fr (fun k => fr _ _ (by omega) (by omega) (by omega) (by omega)) ⟨cn _ (by decide), fun t w a b => an _ _ (by omega) (by omega)⟩
  · exact m9.fr (fun k => ⟨fr _ _ (by omega) (by omega) (by omega) (by omega), fr _ _ (by omega) (by omega) (by omega) (by omega), fr _ _ (by omega) (by omega) (by omega) (by omega)⟩) ⟨cn _ (by decide), fun t => ⟨an _ _ (by omega) (by omega), an _ _ (by omega) (by omega)⟩⟩
  · exact ⟨by rw [fr _ _ (by omega) (by omega) (by omega) (by omega)]; exact m10.1, fun k a => by rw [fr _ _ (by omega) (by omega) (by omega) (by omega)]; exact m10.2 k a⟩
/-- a trait that was read -/
theorem sTr1_in {t q d v1 q1 d1 v2 q2 d2 : Int} {l : List Int} {S1 : q_F} (hn : nwN S1 T N p e = .inr (l, q, d)) (h1 : l_num T N 0 100 q d = .inr (v1, q1, d1)) (h2 : l_num T N 0 100 q1 d1 = .inr (v2, q2, d2)) : sTr1 T N t S1 p e = .inr (q_up (q_up (addN S1 0 (pk32 l)) (8 + t) 0 v1) (8 + t) 1 v2, q2, d2) := by
  unfold sTr1; rw [sNew_nw, hn]
  show sTr2 T N t (addN S1 0 (pk32 l)) q d = _
  unfold sTr2 sNum; rw [h1]
  show sTr3 T N t (q_up (addN S1 0 (pk32 l)) (8 + t) 0 v1) q1 d1 = _
  unfold sTr3 sNum; rw [h2]; rfl
theorem ok_traitsTold (hT : mpS f T N (.inr (p, e))) (hw : mW f) (hE : mE (q_up f 219 46 0) S L) (hW : pW S) (s10 : S 1 0 = 0) (s11 : S 1 1 = 0) (s12 : S 1 2 = 0) (s013 : S 0 13 = 0) : OkV D m_mo_traitsTold [vr D 219] (Zg g h) f (fun f' => mP f f' T N (sEnd T N (sStm true S T N L p e))) := by
  have hs0 : sStm true S T N L p e = if wd T N p e = 0 then lf L (sTr T N 6 0 S (sk T N (le T N p)) (le T N p)) else .inl (1, p) := by unfold sStm; rw [if_pos rfl]
  rw [hs0]; clear hs0
  refine OkV_of (L0 := [vr D 219, vu, vu, vu, vu]) mi_mo_traitsTold rfl rfl (Nat.le_of_ble_eq_true rfl) (fun C hR => ?_)
  generalize hX : sEnd T N (if wd T N p e = 0 then lf L (sTr T N 6 0 S (sk T N (le T N p)) (le T N p)) else .inl (1, p)) = X at *
  have bad109 : ∀ (e0 : Int × Int), X = .inl e0 → ∀ (F : q_F) (a b c d : Value), mpS F T N (.inl e0) → mZ f F → V D C m_mo_traitsTold 109 [vr D 219, a, b, c, d] [] (Zg g h) F := by
    intro e0 hr F a b c d t1 z1
    rw [hr] at hR
    refine V_aload_0 d_mo_traitsTold_109 ?_
    refine V_bipush 59 d_mo_traitsTold_110 (by decide) ?_
    refine V_cvV1 d_mo_traitsTold_112 ml_mo_260 mv_mo_asksSign (by decide) (Nat.le_of_ble_eq_true rfl) is_mo (ok_asksSign t1 (by decide)) ?_
    rintro F2 ⟨t2, k2⟩
    refine V_aload_0 d_mo_traitsTold_115 ?_
    refine V_iconst 1 d_mo_traitsTold_116 ?_
    refine V_putI d_mo_traitsTold_117 fl_mo_264 is_mo ?_
    refine V_return d_mo_traitsTold_120 (hR _ ?_)
    exact ⟨(z1.tr k2.z).up (by first | exact rd219 (by omega) | exact rd246 (by omega) | exact rd247 (by omega) | exact rd248 (by omega) | exact rd249 (by omega) | exact rd250 (by omega) | exact rd251 (by omega) | exact rd252 (by omega) | exact rd253 (by omega) | exact rd254 (by omega) | exact rd257 (by omega) (by omega)), t2.fr (fun j i hji => by rw [q_up_ne (by omega)])⟩
  have bad44 : ∀ (e0 : Int × Int), X = .inl e0 → ∀ (F : q_F) (a b c d : Value), mpS F T N (.inl e0) → mZ f F → V D C m_mo_traitsTold 44 [vr D 219, a, b, c, d] [] (Zg g h) F := by
    intro e0 hr F a b c d t1 z1
    rw [hr] at hR
    have b1 := t1.2.2.2
    refine V_aload_0 d_mo_traitsTold_44 ?_
    refine V_getI d_mo_traitsTold_45 fl_mo_185 is_mo ?_
    rw [b1.1]
    refine V_if_eq 52 d_mo_traitsTold_48 (by decide) (by omega) (fun c48 => by omega) (fun c48 => ?_)
    refine V_return d_mo_traitsTold_51 (hR _ ?_)
    exact ⟨z1, t1⟩
  have bad35 : ∀ (e0 : Int × Int), X = .inl e0 → ∀ (F : q_F) (a b : Value) (c : Int) (d : Value), mpS F T N (.inl e0) → mZ f F → V D C m_mo_traitsTold 35 [vr D 219, a, b, vi c, d] [] (Zg g h) F := by
    intro e0 hr F a b c d t1 z1
    refine V_aload_0 d_mo_traitsTold_35 ?_
    refine V_iconst 0 d_mo_traitsTold_36 ?_
    refine V_bipush 100 d_mo_traitsTold_37 (by decide) ?_
    refine V_cvI2 d_mo_traitsTold_39 ml_mo_256 mv_mo_number (by decide) (Nat.le_of_ble_eq_true rfl) is_mo (ok_number t1 (by decide) (by decide)) ?_
    rintro x F2 ⟨t2, k2, x2, -⟩
    have t2 : mpS F2 T N (.inl e0) := t2
    refine V_istore_4 d_mo_traitsTold_42 rfl ?_
    exact bad44 e0 hr _ _ _ _ _ t2 (z1.tr k2.z)
  have good109 : ∀ (q d : Int) (F S1 : q_F) (a b c dd : Value), mpS F T N (.inr (q, d)) → mZ f F → mE (q_up F 219 46 0) S1 L → pW S1 → S1 0 13 = 0 → X = sEnd T N (lf L (.inr (S1, q, d))) → V D C m_mo_traitsTold 109 [vr D 219, a, b, c, dd] [] (Zg g h) F := by
    intro q d F S1 a b c dd t1 z1 hE1 hW1 s1 hr
    have hr : X = rb (l_sign T N 59 q d) (fun u => .inr (q_up S1 0 13 (S1 0 13 + 1), L, u.1, u.2)) := hr
    cases hl : l_sign T N 59 q d with
    | inl e0 =>
      rw [hl] at hr
      have hr : X = .inl e0 := hr
      rw [hr] at hR
      refine V_aload_0 d_mo_traitsTold_109 ?_
      refine V_bipush 59 d_mo_traitsTold_110 (by decide) ?_
      refine V_cvV1 d_mo_traitsTold_112 ml_mo_260 mv_mo_asksSign (by decide) (Nat.le_of_ble_eq_true rfl) is_mo (ok_asksSign t1 (by decide)) ?_
      rintro F2 ⟨t2, k2⟩
      have t2 : mpS F2 T N (l_sign T N 59 q d) := t2
      rw [hl] at t2
      refine V_aload_0 d_mo_traitsTold_115 ?_
      refine V_iconst 1 d_mo_traitsTold_116 ?_
      refine V_putI d_mo_traitsTold_117 fl_mo_264 is_mo ?_
      refine V_return d_mo_traitsTold_120 (hR _ ?_)
      exact ⟨(z1.tr k2.z).up (by first | exact rd219 (by omega) | exact rd246 (by omega) | exact rd247 (by omega) | exact rd248 (by omega) | exact rd249 (by omega) | exact rd250 (by omega) | exact rd251 (by omega) | exact rd252 (by omega) | exact rd253 (by omega) | exact rd254 (by omega) | exact rd257 (by omega) (by omega)), t2.fr (fun j i hji => by rw [q_up_ne (by omega)])⟩
    | inr u =>
      rw [hl] at hr
      have hr : X = .inr (q_up S1 0 13 (S1 0 13 + 1), L, u.1, u.2) := hr
      rw [hr, s1] at hR
      refine V_aload_0 d_mo_traitsTold_109 ?_
      refine V_bipush 59 d_mo_traitsTold_110 (by decide) ?_
      refine V_cvV1 d_mo_traitsTold_112 ml_mo_260 mv_mo_asksSign (by decide) (Nat.le_of_ble_eq_true rfl) is_mo (ok_asksSign t1 (by decide)) ?_
      rintro F2 ⟨t2, k2⟩
      have t2 : mpS F2 T N (l_sign T N 59 q d) := t2
      rw [hl] at t2
      refine V_aload_0 d_mo_traitsTold_115 ?_
      refine V_iconst 1 d_mo_traitsTold_116 ?_
      refine V_putI d_mo_traitsTold_117 fl_mo_264 is_mo ?_
      refine V_return d_mo_traitsTold_120 (hR _ ?_)
      refine ⟨(z1.tr k2.z).up (by first | exact rd219 (by omega) | exact rd246 (by omega) | exact rd247 (by omega) | exact rd248 (by omega) | exact rd249 (by omega) | exact rd250 (by omega) | exact rd251 (by omega) | exact rd252 (by omega) | exact rd253 (by omega) | exact rd254 (by omega) | exact rd257 (by omega) (by omega)), t2.fr (fun j i hji => by rw [q_up_ne (by omega)]), ?_⟩
      refine hE1.stm hW1 (x := 0 + 1) (Or.inl rfl) (fun j i a b => ?_) (q_up_eq _ _ _ _)
      rw [q_up_ne (by omega), q_up_ne (by omega)]; exact k2 j i a
  have zero10 : ∀ (q d : Int) (F S1 : q_F) (b c dd : Value), mpS F T N (.inr (q, d)) → mZ f F → mE (q_up F 219 46 0) S1 L → pW S1 → S1 0 13 = 0 → X = sEnd T N (lf L (.inr (S1, q, d))) → V D C m_mo_traitsTold 10 [vr D 219, vi 0, b, c, dd] [] (Zg g h) F := by
    intro q d F S1 b c dd t1 z1 hE1 hW1 s1 hr
    have b1 := t1.2.2.2.1
    refine V_aload_0 d_mo_traitsTold_10 ?_
    refine V_getI d_mo_traitsTold_11 fl_mo_185 is_mo ?_
    rw [b1]
    refine V_if_ne 109 d_mo_traitsTold_14 (by decide) (by omega) (fun c14 => by omega) (fun c14 => ?_)
    refine V_iload_1 d_mo_traitsTold_17 ?_
    refine V_if_eq 109 d_mo_traitsTold_18 (by decide) (by omega) (fun c18 => ?_) (fun c18 => by omega)
    exact good109 q d F S1 _ _ _ _ t1 z1 hE1 hW1 s1 hr
  have step : ∀ (R : q_F → Int → Int → q_R (q_F × Int × Int)) (t q d : Int) (F S1 : q_F) (b c dd : Value), 0 ≤ t → t ≤ 5 → mpS F T N (.inr (q, d)) → mZ f F → mE (q_up F 219 46 0) S1 L → pW S1 → S1 1 0 = t → S1 1 1 = 0 → S1 1 2 = 0 → S1 0 13 = 0 → X = sEnd T N (lf L (rb (sTr1 T N t S1 q d) (fun s => if t < 5 ∧ lk T N s.2.1 = 44 then R s.1 (sk T N (s.2.1 + 1)) s.2.2 else .inr s))) → (∀ (F' S1' : q_F) (q' d' : Int) (b c dd : Value), t < 5 → mpS F' T N (.inr (q', d')) → mZ f F' → mE (q_up F' 219 46 0) S1' L → pW S1' → S1' 1 0 = t + 1 → S1' 1 1 = 0 → S1' 1 2 = 0 → S1' 0 13 = 0 → X = sEnd T N (lf L (R S1' q' d')) → V D C m_mo_traitsTold 10 [vr D 219, vi 1, b, c, dd] [] (Zg g h) F') → V D C m_mo_traitsTold 10 [vr D 219, vi 1, b, c, dd] [] (Zg g h) F := by
    intro R t q d F S1 b c dd h0 h5 t1 z1 hE1 hW1 c10 c11 c12 c13 hr K
    have hM1 : mN F S1 := hE1.1.fr (fun j k hj => by rw [q_up_ne (by omega)]) hW1
    have b1 := t1.2.2.2.1
    have hpr := t1.pr
    have good44 : ∀ (l : List Int) (v1 v2 q1 d1 : Int) (G : q_F), isNm l → (0 ≤ pk32 l ∧ pk32 l < 1073741824) → mpS G T N (.inr (q1, d1)) → (∀ j i, ¬ (j = 219 ∧ (i = 2 ∨ i = 4 ∨ i = 5 ∨ i = 6 ∨ i = 34)) → ¬ (j = 247 ∧ i = 8 * 0 + S1 1 0) → G j i = F j i) → G 247 (8 * 0 + S1 1 0) = pk27 l → sTr1 T N t S1 q d = .inr (q_up (q_up (addN S1 0 (pk32 l)) (8 + t) 0 v1) (8 + t) 1 v2, q1, d1) → V D C m_mo_traitsTold 44 [vr D 219, vi 1, vi t, vi v1, vi v2] [] (Zg g h) G := by
      intro l v1 v2 q1 d1 G ln lr t2 k2 l2 hs1
      have b2 := t2.2.2.2.1
      have hr2 : X = sEnd T N (lf L (if t < 5 ∧ lk T N q1 = 44 then R (q_up (q_up (addN S1 0 (pk32 l)) (8 + t) 0 v1) (8 + t) 1 v2) (sk T N (q1 + 1)) d1 else .inr (q_up (q_up (addN S1 0 (pk32 l)) (8 + t) 0 v1) (8 + t) 1 v2, q1, d1))) := by rw [hr, hs1]; rfl
      have g0 : G 246 0 = t := by rw [k2 _ _ (by omega) (by omega), hM1.1 0 (by decide) (by decide)]; exact c10
      have H : ∀ G2 : q_F, G2 = q_up (q_up (q_up G 248 t v1) 248 (6 + t) v2) 246 0 (t + 1) → mpS G2 T N (.inr (q1, d1)) ∧ mZ f G2 ∧ mE (q_up G2 219 46 0) (q_up (q_up (addN S1 0 (pk32 l)) (8 + t) 0 v1) (8 + t) 1 v2) L ∧ G2 246 0 = t + 1 := by
        intro G2 hG2
        refine ⟨?_, ?_, ?_, ?_⟩
        · rw [hG2]; exact t2.fr (fun j i hji => by rw [q_up_ne (by omega), q_up_ne (by omega), q_up_ne (by omega)])
        · rw [hG2]
          have z2 : mZ f G := fun j i a => by rw [k2 j i (fun b => a (rdx b)) (fun b => a (by obtain ⟨rfl, b⟩ := b; exact rd247 (by omega)))]; exact z1 j i a
          exact ((z2.up (by first | exact rd219 (by omega) | exact rd246 (by omega) | exact rd247 (by omega) | exact rd248 (by omega) | exact rd249 (by omega) | exact rd250 (by omega) | exact rd251 (by omega) | exact rd252 (by omega) | exact rd253 (by omega) | exact rd254 (by omega) | exact rd257 (by omega) (by omega))).up (by first | exact rd219 (by omega) | exact rd246 (by omega) | exact rd247 (by omega) | exact rd248 (by omega) | exact rd249 (by omega) | exact rd250 (by omega) | exact rd251 (by omega) | exact rd252 (by omega) | exact rd253 (by omega) | exact rd254 (by omega) | exact rd257 (by omega) (by omega))).up (by first | exact rd219 (by omega) | exact rd246 (by omega) | exact rd247 (by omega) | exact rd248 (by omega) | exact rd249 (by omega) | exact rd250 (by omega) | exact rd251 (by omega) | exact rd252 (by omega) | exact rd253 (by omega) | exact rd254 (by omega) | exact rd257 (by omega) (by omega))
        · rw [← c10]
          refine hE1.trait hW1 c11 c12 (by omega) ln (fun j i a b c' dd => ?_) ?_ ?_ ?_ ?_
          · rw [hG2]
            by_cases e46 : j = 219 ∧ i = 46
            · rw [e46.1, e46.2, q_up_eq, q_up_eq]
            · rw [q_up_ne (by omega), q_up_ne (by omega), q_up_ne (by omega), q_up_ne (by omega), q_up_ne (by omega)]; exact k2 j i a b
          · rw [hG2, q_up_ne (by omega), q_up_ne (by omega), q_up_ne (by omega), q_up_ne (by omega)]; exact l2
          · rw [hG2, q_up_ne (by omega), q_up_eq, c10]
          · rw [hG2, q_up_ne (by omega), q_up_ne (by omega), q_up_ne (by omega), q_up_is (by omega)]
          · rw [hG2, q_up_ne (by omega), q_up_ne (by omega), q_up_is (by omega)]
        · rw [hG2, q_up_eq]
      have hW2 : pW (q_up (q_up (addN S1 0 (pk32 l)) (8 + t) 0 v1) (8 + t) 1 v2) := ((pW_addN hW1 (by decide) (by show S1 1 0 < 6; omega) lr).up2 (by omega)).up2 (by omega)
      have w1 : ∀ i, ¬ i = 0 → q_up (q_up (addN S1 0 (pk32 l)) (8 + t) 0 v1) (8 + t) 1 v2 1 i = S1 1 i := fun i hi => by rw [q_up_ne (by omega), q_up_ne (by omega), addN_cn (by decide), if_neg hi]
      have w0 : q_up (q_up (addN S1 0 (pk32 l)) (8 + t) 0 v1) (8 + t) 1 v2 1 0 = t + 1 := by rw [q_up_ne (by omega), q_up_ne (by omega), addN_cn (by decide), if_pos rfl, c10]
      have w13 : q_up (q_up (addN S1 0 (pk32 l)) (8 + t) 0 v1) (8 + t) 1 v2 0 13 = 0 := by rw [q_up_ne (by omega), q_up_ne (by omega), addN_ne (by decide) (by decide), c13]
      generalize hS2 : q_up (q_up (addN S1 0 (pk32 l)) (8 + t) 0 v1) (8 + t) 1 v2 = S2 at *
      generalize hG2 : q_up (q_up (q_up G 248 t v1) 248 (6 + t) v2) 246 0 (t + 1) = G2
      obtain ⟨t3, z3, E3, n3⟩ := H G2 hG2.symm
      refine V_aload_0 d_mo_traitsTold_44 ?_
      refine V_getI d_mo_traitsTold_45 fl_mo_185 is_mo ?_
      rw [b2]
      refine V_if_eq 52 d_mo_traitsTold_48 (by decide) (by omega) (fun c48 => ?_) (fun c48 => by omega)
      refine V_aload_0 d_mo_traitsTold_52 ?_
      refine V_getR d_mo_traitsTold_53 fl_mo_100 is_mo r_mo_shows ?_
      refine V_iload_2 d_mo_traitsTold_56 ?_
      refine V_iload_3 d_mo_traitsTold_57 ?_
      refine V_iast d_mo_traitsTold_58 is_mo_shows (by omega) (by omega) ?_
      refine V_aload_0 d_mo_traitsTold_59 ?_
      refine V_getR d_mo_traitsTold_60 fl_mo_100 is_mo r_mo_shows ?_
      refine V_bipush 6 d_mo_traitsTold_63 (by decide) ?_
      refine V_iload_2 d_mo_traitsTold_65 ?_
      refine V_iadd d_mo_traitsTold_66 ?_
      refine V_iload_4 d_mo_traitsTold_67 ?_
      refine V_iast d_mo_traitsTold_69 is_mo_shows (by omega) (by omega) ?_
      refine V_aload_0 d_mo_traitsTold_70 ?_
      refine V_getR d_mo_traitsTold_71 fl_mo_93 is_mo r_mo_many ?_
      refine V_iconst 0 d_mo_traitsTold_74 ?_
      refine V_dup2 d_mo_traitsTold_75 rfl rfl ?_
      refine V_iald d_mo_traitsTold_76 is_mo_many (by omega) (by omega) ?_
      rw [q_up_ne (by omega), q_up_ne (by omega), g0]
      refine V_iconst 1 d_mo_traitsTold_77 ?_
      refine V_iadd d_mo_traitsTold_78 ?_
      refine V_iast d_mo_traitsTold_79 is_mo_many (by omega) (by omega) ?_
      rw [hG2]
      refine V_aload_0 d_mo_traitsTold_80 ?_
      refine V_getR d_mo_traitsTold_81 fl_mo_93 is_mo r_mo_many ?_
      refine V_iconst 0 d_mo_traitsTold_84 ?_
      refine V_iald d_mo_traitsTold_85 is_mo_many (by omega) (by omega) ?_
      rw [n3]
      refine V_bipush 6 d_mo_traitsTold_86 (by decide) ?_
      refine V_icmp_ge 104 d_mo_traitsTold_88 (by decide) (by omega) (by omega) (fun c88 => ?_) (fun c88 => ?_)
      · skip
        refine V_iconst 0 d_mo_traitsTold_104 ?_
        refine V_istore_1 d_mo_traitsTold_105 rfl ?_
        refine V_goto 10 d_mo_traitsTold_106 (by decide) ?_
        exact zero10 q1 d1 G2 S2 _ _ _ t3 z3 E3 hW2 w13 (by rw [hr2, if_neg (by omega)])
      · skip
        refine V_aload_0 d_mo_traitsTold_91 ?_
        refine V_bipush 44 d_mo_traitsTold_92 (by decide) ?_
        refine V_cvI1 d_mo_traitsTold_94 ml_mo_219 mv_mo_takesSign (by decide) (Nat.le_of_ble_eq_true rfl) is_mo (ok_takesSign t3 (by decide)) ?_
        rintro x F4 ⟨hx, t4, k4, -⟩
        have t4 : mpS F4 T N (if lk T N q1 = 44 then .inr (sk T N (q1 + 1), d1) else .inr (q1, d1)) := t4
        have E4 : mE (q_up F4 219 46 0) S2 L := E3.mk hW2 (fun j i a => by
          by_cases e46 : j = 219 ∧ i = 46
          · rw [e46.1, e46.2, q_up_eq, q_up_eq]
          · rw [q_up_ne (by omega), q_up_ne (by omega)]; exact k4 j i a)
        have z4 := z3.tr k4.z
        refine V_if_eq 104 d_mo_traitsTold_97 (by decide) (by rcases hx with h | h <;> omega) (fun c97 => ?_) (fun c97 => ?_)
        · skip
          have hx0 : ¬ lk T N q1 = 44 := fun e => by
            rcases hx with h | h
            · omega
            · exact h.2 (decide_eq_true e)
          rw [if_neg hx0] at t4
          refine V_iconst 0 d_mo_traitsTold_104 ?_
          refine V_istore_1 d_mo_traitsTold_105 rfl ?_
          refine V_goto 10 d_mo_traitsTold_106 (by decide) ?_
          exact zero10 q1 d1 F4 S2 _ _ _ t4 z4 E4 hW2 w13 (by rw [hr2, if_neg (by omega)])
        · skip
          have hx0 : lk T N q1 = 44 := by
            rcases hx with h | h
            · exact of_decide_eq_true h.2
            · omega
          rw [if_pos hx0] at t4
          refine V_iconst 1 d_mo_traitsTold_100 ?_
          refine V_goto 105 d_mo_traitsTold_101 (by decide) ?_
          refine V_istore_1 d_mo_traitsTold_105 rfl ?_
          refine V_goto 10 d_mo_traitsTold_106 (by decide) ?_
          exact K F4 S2 _ _ _ _ _ (by omega) t4 z4 E4 hW2 w0 (by rw [w1 _ (by decide)]; exact c11) (by rw [w1 _ (by decide)]; exact c12) w13 (by rw [hr2, if_pos ⟨by omega, hx0⟩])
    have L0 : ∀ e0, sTr1 T N t S1 q d = .inl e0 → X = .inl e0 := fun e0 he => by rw [hr, he]; rfl
    cases hn : nwN S1 T N q d with
    | inl e0 =>
      have hX0 : X = .inl e0 := L0 e0 (by unfold sTr1; rw [sNew_nw, hn]; rfl)
      refine V_aload_0 d_mo_traitsTold_10 ?_
      refine V_getI d_mo_traitsTold_11 fl_mo_185 is_mo ?_
      rw [b1]
      refine V_if_ne 109 d_mo_traitsTold_14 (by decide) (by omega) (fun c14 => by omega) (fun c14 => ?_)
      refine V_iload_1 d_mo_traitsTold_17 ?_
      refine V_if_eq 109 d_mo_traitsTold_18 (by decide) (by omega) (fun c18 => by omega) (fun c18 => ?_)
      refine V_aload_0 d_mo_traitsTold_21 ?_
      refine V_iconst 0 d_mo_traitsTold_22 ?_
      refine V_cvI1 d_mo_traitsTold_23 ml_mo_252 mv_mo_newName (by decide) (Nat.le_of_ble_eq_true rfl) is_mo (ok_newName t1 (z1.w hw) hM1 hW1 (by decide) (by omega)) ?_
      rintro x F2 ⟨rfl, t2, k2⟩
      have t2 : mpS F2 T N (pst (nwN S1 T N q d)) := t2
      rw [hn] at t2
      have t2 : mpS F2 T N (.inl e0) := t2
      have z2 := k2.z (by decide) (by omega)
      refine V_istore_2 d_mo_traitsTold_26 rfl ?_
      refine V_aload_0 d_mo_traitsTold_27 ?_
      refine V_iconst 0 d_mo_traitsTold_28 ?_
      refine V_bipush 100 d_mo_traitsTold_29 (by decide) ?_
      refine V_cvI2 d_mo_traitsTold_31 ml_mo_256 mv_mo_number (by decide) (Nat.le_of_ble_eq_true rfl) is_mo (ok_number t2 (by decide) (by decide)) ?_
      rintro x F3 ⟨t3, k3, x3, -⟩
      have t3 : mpS F3 T N (.inl e0) := t3
      refine V_istore_3 d_mo_traitsTold_34 rfl ?_
      exact bad35 e0 hX0 F3 _ _ _ _ t3 ((z1.tr z2).tr k3.z)
    | inr u =>
      obtain ⟨l, q1, d1⟩ := u
      have hln : ∃ y, l_name T N q d = .inr y ∧ y = (l, q1, d1) := by
        unfold nwN at hn
        obtain ⟨y, hy1, hy2⟩ := rb_inr hn
        refine ⟨y, hy1, ?_⟩
        split at hy2
        · cases hy2
        · cases hy2; rfl
      obtain ⟨y, hy1, hy2⟩ := hln
      rw [hy2] at hy1
      have lr := l_name_rg hpr.2.1 hy1
      cases h1 : l_num T N 0 100 q1 d1 with
      | inl e0 =>
        have hX0 : X = .inl e0 := L0 e0 (by
          unfold sTr1; rw [sNew_nw, hn]
          show sTr2 T N t (addN S1 0 (pk32 l)) q1 d1 = _
          unfold sTr2 sNum; rw [h1]; rfl)
        refine V_aload_0 d_mo_traitsTold_10 ?_
        refine V_getI d_mo_traitsTold_11 fl_mo_185 is_mo ?_
        rw [b1]
        refine V_if_ne 109 d_mo_traitsTold_14 (by decide) (by omega) (fun c14 => by omega) (fun c14 => ?_)
        refine V_iload_1 d_mo_traitsTold_17 ?_
        refine V_if_eq 109 d_mo_traitsTold_18 (by decide) (by omega) (fun c18 => by omega) (fun c18 => ?_)
        refine V_aload_0 d_mo_traitsTold_21 ?_
        refine V_iconst 0 d_mo_traitsTold_22 ?_
        refine V_cvI1 d_mo_traitsTold_23 ml_mo_252 mv_mo_newName (by decide) (Nat.le_of_ble_eq_true rfl) is_mo (ok_newName t1 (z1.w hw) hM1 hW1 (by decide) (by omega)) ?_
        rintro x F2 ⟨rfl, t2, k2⟩
        have t2 : mpS F2 T N (pst (nwN S1 T N q d)) := t2
        rw [hn] at t2
        have t2 : mpS F2 T N (.inr (q1, d1)) := t2
        have z2 := k2.z (by decide) (by omega)
        refine V_istore_2 d_mo_traitsTold_26 rfl ?_
        refine V_aload_0 d_mo_traitsTold_27 ?_
        refine V_iconst 0 d_mo_traitsTold_28 ?_
        refine V_bipush 100 d_mo_traitsTold_29 (by decide) ?_
        refine V_cvI2 d_mo_traitsTold_31 ml_mo_256 mv_mo_number (by decide) (Nat.le_of_ble_eq_true rfl) is_mo (ok_number t2 (by decide) (by decide)) ?_
        rintro x F3 ⟨t3, k3, x3, -⟩
        have t3 : mpS F3 T N (pst (l_num T N 0 100 q1 d1)) := t3
        rw [h1] at t3
        have t3 : mpS F3 T N (.inl e0) := t3
        refine V_istore_3 d_mo_traitsTold_34 rfl ?_
        exact bad35 e0 hX0 F3 _ _ _ _ t3 ((z1.tr z2).tr k3.z)
      | inr u =>
        obtain ⟨v1, q2, d2⟩ := u
        cases h2 : l_num T N 0 100 q2 d2 with
        | inl e0 =>
          have hX0 : X = .inl e0 := L0 e0 (by
            unfold sTr1; rw [sNew_nw, hn]
            show sTr2 T N t (addN S1 0 (pk32 l)) q1 d1 = _
            unfold sTr2 sNum; rw [h1]
            show sTr3 T N t (q_up (addN S1 0 (pk32 l)) (8 + t) 0 v1) q2 d2 = _
            unfold sTr3 sNum; rw [h2]; rfl)
          refine V_aload_0 d_mo_traitsTold_10 ?_
          refine V_getI d_mo_traitsTold_11 fl_mo_185 is_mo ?_
          rw [b1]
          refine V_if_ne 109 d_mo_traitsTold_14 (by decide) (by omega) (fun c14 => by omega) (fun c14 => ?_)
          refine V_iload_1 d_mo_traitsTold_17 ?_
          refine V_if_eq 109 d_mo_traitsTold_18 (by decide) (by omega) (fun c18 => by omega) (fun c18 => ?_)
          refine V_aload_0 d_mo_traitsTold_21 ?_
          refine V_iconst 0 d_mo_traitsTold_22 ?_
          refine V_cvI1 d_mo_traitsTold_23 ml_mo_252 mv_mo_newName (by decide) (Nat.le_of_ble_eq_true rfl) is_mo (ok_newName t1 (z1.w hw) hM1 hW1 (by decide) (by omega)) ?_
          rintro x F2 ⟨rfl, t2, k2⟩
          have t2 : mpS F2 T N (pst (nwN S1 T N q d)) := t2
          rw [hn] at t2
          have t2 : mpS F2 T N (.inr (q1, d1)) := t2
          have z2 := k2.z (by decide) (by omega)
          refine V_istore_2 d_mo_traitsTold_26 rfl ?_
          refine V_aload_0 d_mo_traitsTold_27 ?_
          refine V_iconst 0 d_mo_traitsTold_28 ?_
          refine V_bipush 100 d_mo_traitsTold_29 (by decide) ?_
          refine V_cvI2 d_mo_traitsTold_31 ml_mo_256 mv_mo_number (by decide) (Nat.le_of_ble_eq_true rfl) is_mo (ok_number t2 (by decide) (by decide)) ?_
          rintro x F3 ⟨t3, k3, x3, -⟩
          have t3 : mpS F3 T N (pst (l_num T N 0 100 q1 d1)) := t3
          rw [h1] at t3
          have t3 : mpS F3 T N (.inr (q2, d2)) := t3
          refine V_istore_3 d_mo_traitsTold_34 rfl ?_
          refine V_aload_0 d_mo_traitsTold_35 ?_
          refine V_iconst 0 d_mo_traitsTold_36 ?_
          refine V_bipush 100 d_mo_traitsTold_37 (by decide) ?_
          refine V_cvI2 d_mo_traitsTold_39 ml_mo_256 mv_mo_number (by decide) (Nat.le_of_ble_eq_true rfl) is_mo (ok_number t3 (by decide) (by decide)) ?_
          rintro y F4 ⟨t4, k4, y4, -⟩
          have t4 : mpS F4 T N (pst (l_num T N 0 100 q2 d2)) := t4
          rw [h2] at t4
          have t4 : mpS F4 T N (.inl e0) := t4
          refine V_istore_4 d_mo_traitsTold_42 rfl ?_
          exact bad44 e0 hX0 F4 _ _ _ _ t4 (((z1.tr z2).tr k3.z).tr k4.z)
        | inr u =>
          obtain ⟨v2, q3, d3⟩ := u
          refine V_aload_0 d_mo_traitsTold_10 ?_
          refine V_getI d_mo_traitsTold_11 fl_mo_185 is_mo ?_
          rw [b1]
          refine V_if_ne 109 d_mo_traitsTold_14 (by decide) (by omega) (fun c14 => by omega) (fun c14 => ?_)
          refine V_iload_1 d_mo_traitsTold_17 ?_
          refine V_if_eq 109 d_mo_traitsTold_18 (by decide) (by omega) (fun c18 => by omega) (fun c18 => ?_)
          refine V_aload_0 d_mo_traitsTold_21 ?_
          refine V_iconst 0 d_mo_traitsTold_22 ?_
          refine V_cvI1 d_mo_traitsTold_23 ml_mo_252 mv_mo_newName (by decide) (Nat.le_of_ble_eq_true rfl) is_mo (ok_newName t1 (z1.w hw) hM1 hW1 (by decide) (by omega)) ?_
          rintro x F2 ⟨rfl, t2, k2⟩
          have t2 : mpS F2 T N (pst (nwN S1 T N q d)) := t2
          rw [hn] at t2
          have t2 : mpS F2 T N (.inr (q1, d1)) := t2
          obtain ⟨ln, l2⟩ := k2.2 l q1 d1 hn
          rw [c10]
          refine V_istore_2 d_mo_traitsTold_26 rfl ?_
          refine V_aload_0 d_mo_traitsTold_27 ?_
          refine V_iconst 0 d_mo_traitsTold_28 ?_
          refine V_bipush 100 d_mo_traitsTold_29 (by decide) ?_
          refine V_cvI2 d_mo_traitsTold_31 ml_mo_256 mv_mo_number (by decide) (Nat.le_of_ble_eq_true rfl) is_mo (ok_number t2 (by decide) (by decide)) ?_
          rintro x F3 ⟨t3, k3, x3, x4⟩
          have t3 : mpS F3 T N (pst (l_num T N 0 100 q1 d1)) := t3
          rw [h1] at t3
          have t3 : mpS F3 T N (.inr (q2, d2)) := t3
          have x4 : x = v1 := x4 v1 q2 d2 h1
          rw [x4]
          refine V_istore_3 d_mo_traitsTold_34 rfl ?_
          refine V_aload_0 d_mo_traitsTold_35 ?_
          refine V_iconst 0 d_mo_traitsTold_36 ?_
          refine V_bipush 100 d_mo_traitsTold_37 (by decide) ?_
          refine V_cvI2 d_mo_traitsTold_39 ml_mo_256 mv_mo_number (by decide) (Nat.le_of_ble_eq_true rfl) is_mo (ok_number t3 (by decide) (by decide)) ?_
          rintro y F4 ⟨t4, k4, y4, y5⟩
          have t4 : mpS F4 T N (pst (l_num T N 0 100 q2 d2)) := t4
          rw [h2] at t4
          have t4 : mpS F4 T N (.inr (q3, d3)) := t4
          have y5 : y = v2 := y5 v2 q3 d3 h2
          rw [y5]
          refine V_istore_4 d_mo_traitsTold_42 rfl ?_
          exact good44 l v1 v2 q3 d3 F4 ln lr.2.1 t4 (fun j i a b => by rw [k4 j i a, k3 j i a]; exact k2.1 j i a b) (by rw [k4 _ _ (by omega), k3 _ _ (by omega)]; exact l2) (sTr1_in hn h1 h2)
  have good10 : ∀ (m : Nat) (t q d : Int) (F S1 : q_F) (b c dd : Value), t + m = 5 → 0 ≤ t → mpS F T N (.inr (q, d)) → mZ f F → mE (q_up F 219 46 0) S1 L → pW S1 → S1 1 0 = t → S1 1 1 = 0 → S1 1 2 = 0 → S1 0 13 = 0 → X = sEnd T N (lf L (sTr T N (m + 1) t S1 q d)) → V D C m_mo_traitsTold 10 [vr D 219, vi 1, b, c, dd] [] (Zg g h) F := by
    intro m
    induction m with
    | zero =>
      intro t q d F S1 b c dd hm h0 t1 z1 hE1 hW1 c0 c1 c2 c13 hr
      exact step (fun S p e => sTr T N 0 (t + 1) S p e) t q d F S1 b c dd h0 (by omega) t1 z1 hE1 hW1 c0 c1 c2 c13 hr (fun F' S1' q' d' b c dd h5 => by omega)
    | succ m ih =>
      intro t q d F S1 b c dd hm h0 t1 z1 hE1 hW1 c0 c1 c2 c13 hr
      exact step (fun S p e => sTr T N (m + 1) (t + 1) S p e) t q d F S1 b c dd h0 (by omega) t1 z1 hE1 hW1 c0 c1 c2 c13 hr (fun F' S1' q' d' b c dd _ a1 a2 a3 a4 a5 a6 a7 a8 a9 => ih (t + 1) q' d' F' S1' b c dd (by omega) (by omega) a1 a2 a3 a4 a5 a6 a7 a8 a9)
  by_cases hwd : wd T N p e = 0
  · rw [if_pos hwd] at hX
    have hl : l_word T N 0 p e = .inr (sk T N (le T N p), le T N p) := by unfold l_word; rw [if_pos hwd]
    refine V_aload_0 d_mo_traitsTold_0 ?_
    refine V_aload_0 d_mo_traitsTold_1 ?_
    refine V_getR d_mo_traitsTold_2 fl_mo_17 is_mo r_mo_traitsWord ?_
    refine V_cvV1 d_mo_traitsTold_5 ml_mo_248 mv_mo_asks (by decide) (Nat.le_of_ble_eq_true rfl) is_mo (ok_askA hT hw 0 (by decide) rfl) ?_
    rintro F2 ⟨t2, k2⟩
    have t2 : mpS F2 T N (l_word T N 0 p e) := t2
    rw [hl] at t2
    refine V_iconst 1 d_mo_traitsTold_8 ?_
    refine V_istore_1 d_mo_traitsTold_9 rfl ?_
    refine good10 5 0 _ _ F2 S _ _ _ (by decide) (by decide) t2 k2.z (hE.mk hW (fun j i a => ?_)) hW s10 s11 s12 s013 hX.symm
    by_cases e46 : j = 219 ∧ i = 46
    · rw [e46.1, e46.2, q_up_eq, q_up_eq]
    · rw [q_up_ne (by omega), q_up_ne (by omega)]; exact k2 j i a
  · rw [if_neg hwd] at hX
    have hl : l_word T N 0 p e = .inl (1, p) := by unfold l_word; rw [if_neg hwd]
    have hX0 : X = .inl (1, p) := hX.symm
    have bad10 : ∀ (F : q_F) (b c dd : Value), mpS F T N (.inl (1, p)) → mZ f F → V D C m_mo_traitsTold 10 [vr D 219, vi 1, b, c, dd] [] (Zg g h) F := by
      intro F b c dd t1 z1
      have b1 := t1.2.2.2.1
      refine V_aload_0 d_mo_traitsTold_10 ?_
      refine V_getI d_mo_traitsTold_11 fl_mo_185 is_mo ?_
      rw [b1]
      refine V_if_ne 109 d_mo_traitsTold_14 (by decide) (by omega) (fun c14 => ?_) (fun c14 => by omega)
      exact bad109 (1, p) hX0 F _ _ _ _ t1 z1
    refine V_aload_0 d_mo_traitsTold_0 ?_
    refine V_aload_0 d_mo_traitsTold_1 ?_
    refine V_getR d_mo_traitsTold_2 fl_mo_17 is_mo r_mo_traitsWord ?_
    refine V_cvV1 d_mo_traitsTold_5 ml_mo_248 mv_mo_asks (by decide) (Nat.le_of_ble_eq_true rfl) is_mo (ok_askA hT hw 0 (by decide) rfl) ?_
    rintro F2 ⟨t2, k2⟩
    have t2 : mpS F2 T N (l_word T N 0 p e) := t2
    rw [hl] at t2
    refine V_iconst 1 d_mo_traitsTold_8 ?_
    refine V_istore_1 d_mo_traitsTold_9 rfl ?_
    exact bad10 F2 _ _ _ t2 k2.z
end RN12
