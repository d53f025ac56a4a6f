/-! the reference reads places -/
section RN4
variable {D : q_D} {f f' f'' S S' : q_F} {A : q_As} {g h : Int} {T : Int → Int} {N p e : Int} {L : List Int}
theorem sNew_nw (k : Int) : sNew S T N k p e = rb (nwN S T N p e) (fun s => .inr (addN S k (pk32 s.1), s.2.1, s.2.2)) := by
  unfold sNew nwN
  cases l_name T N p e with
  | inl e0 => rfl
  | inr s =>
    show (if gvn S (pk32 s.1) then _ else _) = rb (if gvn S (pk32 s.1) then _ else _) _
    split <;> rfl
theorem mKn.z {k : Int} {r : q_R (List Int × Int × Int)} (h : mKn S f f' k r) (hk : 0 ≤ k ∧ k < 4) (hlt : S 1 k < 8) : mZ f f' := fun j i a => h.1 j i (fun b => a (rdx b)) (fun b => a (by obtain ⟨rfl, b⟩ := b; exact rd247 (by omega)))
theorem addN_ne {k v : Int} {j i : Int} (hk : 0 ≤ k ∧ k < 4) (h : ¬ (j = 1 ∧ 0 ≤ i ∧ i < 4) ∧ ¬ (3 ≤ j ∧ j < 7)) : addN S k v j i = S j i := by
  unfold addN; rw [q_up_ne (by omega), q_up_ne (by omega)]
theorem addN_cn {k v i : Int} (hk : 0 ≤ k ∧ k < 4) : addN S k v 1 i = if i = k then S 1 k + 1 else S 1 i := by
  unfold addN
  split
  · next e => rw [e, q_up_eq]
  · next e => rw [q_up_ne (by omega), q_up_ne (by omega)]
theorem mE.place (hE : mE f S L) (hW : pW S) {F : q_F} {l : List Int} (ln : isNm l) (hlt : S 1 3 < 8) (k2 : ∀ j i, ¬ (j = 219 ∧ (i = 2 ∨ i = 4 ∨ i = 5 ∨ i = 6 ∨ i = 34)) → ¬ (j = 247 ∧ i = 8 * 3 + S 1 3) → F j i = f j i) (l2 : F 247 (8 * 3 + S 1 3) = pk27 l) : mE (q_up F 246 3 (S 1 3 + 1)) (addN S 3 (pk32 l)) L := by
  have fr : ∀ j i, ¬ (j = 219 ∧ (i = 2 ∨ i = 4 ∨ i = 5 ∨ i = 6 ∨ i = 34)) → ¬ j = 247 → ¬ (j = 246 ∧ i = 3) → q_up F 246 3 (S 1 3 + 1) j i = f j i := fun j i a b c => by
    rw [q_up_ne (by omega)]; exact k2 j i a (fun u => b u.1)
  obtain ⟨m1, m2, m3, m4, m5, m6, m7, m8, m9, m10⟩ := hE
  have cn : ∀ i, ¬ i = 3 → addN S 3 (pk32 l) 1 i = S 1 i := fun i hi => by rw [addN_cn (by decide), if_neg hi]
  refine ⟨?_, ?_, ?_, ?_, ?_, ?_, ?_, ?_, ?_, ?_⟩
  · refine m1.add hW (k := 3) (by decide) ln (fun i a b => ?_) (fun i a => ?_) (by omega) (fun i w a => rfl)
    · split
      · next e => rw [e, q_up_eq]
      · next e => rw [fr _ _ (by omega) (by omega) (by omega)]
    · rw [q_up_ne (by omega)]
      split
      · next e => rw [e]; exact l2
      · next e => exact k2 _ _ (by omega) (by omega)
  · refine ⟨?_, ?_, ?_, ?_, ?_⟩
    · rw [fr _ _ (by decide) (by decide) (by decide), cn _ (by decide)]; exact m2.1
    · rw [fr _ _ (by decide) (by decide) (by decide), cn _ (by decide)]; exact m2.2.1
    · rw [fr _ _ (by decide) (by decide) (by decide), cn _ (by decide)]; exact m2.2.2.1
    · rw [fr _ _ (by decide) (by decide) (by decide), addN_ne (by decide) (by decide)]; exact m2.2.2.2.1
    · rw [fr _ _ (by decide) (by decide) (by decide), addN_ne (by decide) (by decide)]; exact m2.2.2.2.2
  · exact m3.fr (fun k => fr _ _ (by omega) (by omega) (by omega)) ⟨cn _ (by decide), fun t w a b => addN_ne (by decide) (by omega)⟩
  · exact m4.fr (fun k => fr _ _ (by omega) (by omega) (by omega)) ⟨cn _ (by decide), cn _ (by decide), fun t w a b => addN_ne (by decide) (by omega)⟩
  · exact m5.fr (fun k => ⟨fr _ _ (by omega) (by omega) (by omega), fr _ _ (by omega) (by omega) (by omega)⟩) ⟨cn _ (by decide), cn _ (by decide), fun t w a b => ⟨addN_ne (by decide) (by omega), addN_ne (by decide) (by omega)⟩⟩
  · exact m6.fr (fun k => fr _ _ (by omega) (by omega) (by omega)) ⟨cn _ (by decide), fun t => addN_ne (by decide) (by omega)⟩
  · exact m7.fr (fun k => fr _ _ (by omega) (by omega) (by omega)) (fun t w a b => addN_ne (by decide) (by omega))
  · exact m8.fr (fun k => fr _ _ (by omega) (by omega) (by omega)) ⟨cn _ (by decide), fun t w a b => addN_ne (by decide) (by omega)⟩
  · exact m9.fr (fun k => ⟨fr _ _ (by omega) (by omega) (by omega), fr _ _ (by omega) (by omega) (by omega), fr _ _ (by omega) (by omega) (by omega)⟩) ⟨cn _ (by decide), fun t => ⟨addN_ne (by decide) (by omega), addN_ne (by decide) (by omega)⟩⟩
  · exact ⟨by rw [fr _ _ (by decide) (by decide) (by decide)]; exact m10.1, fun k a => by rw [fr _ _ (by omega) (by omega) (by omega)]; exact m10.2 k a⟩
theorem ok_placeTold (hT : mpS f T N (.inr (p, e))) (hw : mW f) (hE : mE f S L) (hW : pW S) {w : Int} : OkV D m_mo_placeTold [vr D 219, vi w] (Zg g h) f (fun f' => mP f f' T N (if S 1 3 < 8 then lf L (sNew S T N 3 p e) else .inl (5, w))) := by
  have hcn := hW.cn (k := 3) (by decide)
  have hc3 := hE.1.1 3 (by decide) (by decide)
  refine OkV_of (L0 := [vr D 219, vi w, vu]) mi_mo_placeTold rfl rfl (Nat.le_of_ble_eq_true rfl) (fun C hR => ?_)
  by_cases hc : S 1 3 = 8
  · rw [if_neg (by omega)] at hR
    refine V_aload_0 d_mo_placeTold_0 ?_
    refine V_iconst 3 d_mo_placeTold_1 ?_
    refine V_bipush 8 d_mo_placeTold_2 (by decide) ?_
    refine V_iload_1 d_mo_placeTold_4 ?_
    refine V_cvI3 d_mo_placeTold_5 ml_mo_267 mv_mo_isFull (by decide) (Nat.le_of_ble_eq_true rfl) is_mo (ok_isFull hT (by decide) (by decide) (by omega)) ?_
    rintro x F (⟨rfl, h1, t1, k1⟩ | ⟨rfl, h1, e1⟩)
    rotate_left
    exact absurd (hc3.trans hc) h1
    refine V_if_eq 12 d_mo_placeTold_8 (by decide) (by omega) (fun c8 => by omega) (fun c8 => ?_)
    refine V_return d_mo_placeTold_11 (hR _ ?_)
    exact ⟨k1.z, t1⟩
  · rw [if_pos (by omega), sNew_nw] at hR
    cases hn : nwN S T N p e with
    | inl e0 =>
      rw [hn] at hR
      refine V_aload_0 d_mo_placeTold_0 ?_
      refine V_iconst 3 d_mo_placeTold_1 ?_
      refine V_bipush 8 d_mo_placeTold_2 (by decide) ?_
      refine V_iload_1 d_mo_placeTold_4 ?_
      refine V_cvI3 d_mo_placeTold_5 ml_mo_267 mv_mo_isFull (by decide) (Nat.le_of_ble_eq_true rfl) is_mo (ok_isFull hT (by decide) (by decide) (by omega)) ?_
      rintro x F (⟨rfl, h1, t1, k1⟩ | ⟨rfl, h1, e1⟩)
      exact absurd (hc3.symm.trans h1) hc
      rw [e1]; clear e1 F
      refine V_if_eq 12 d_mo_placeTold_8 (by decide) (by omega) (fun c8 => ?_) (fun c8 => by omega)
      refine V_aload_0 d_mo_placeTold_12 ?_
      refine V_iconst 3 d_mo_placeTold_13 ?_
      refine V_cvI1 d_mo_placeTold_14 ml_mo_252 mv_mo_newName (by decide) (Nat.le_of_ble_eq_true rfl) is_mo (ok_newName hT hw hE.1 hW (by decide) (by omega)) ?_
      rintro x F ⟨rfl, t2, k2⟩
      have t2 : mpS F T N (.inl e0) := by
        have t3 : mpS F T N (pst (nwN S T N p e)) := t2
        rw [hn] at t3; exact t3
      have b2 := t2.2.2.2
      refine V_istore_2 d_mo_placeTold_17 rfl ?_
      refine V_aload_0 d_mo_placeTold_18 ?_
      refine V_getI d_mo_placeTold_19 fl_mo_185 is_mo ?_
      rw [b2.1]
      refine V_if_ne 35 d_mo_placeTold_22 (by decide) (by omega) (fun c22 => ?_) (fun c22 => by omega)
      refine V_return d_mo_placeTold_35 (hR _ ?_)
      exact ⟨k2.z (by decide) (by omega), t2⟩
    | inr u =>
      obtain ⟨l, q, d⟩ := u
      rw [hn] at hR
      refine V_aload_0 d_mo_placeTold_0 ?_
      refine V_iconst 3 d_mo_placeTold_1 ?_
      refine V_bipush 8 d_mo_placeTold_2 (by decide) ?_
      refine V_iload_1 d_mo_placeTold_4 ?_
      refine V_cvI3 d_mo_placeTold_5 ml_mo_267 mv_mo_isFull (by decide) (Nat.le_of_ble_eq_true rfl) is_mo (ok_isFull hT (by decide) (by decide) (by omega)) ?_
      rintro x F (⟨rfl, h1, t1, k1⟩ | ⟨rfl, h1, e1⟩)
      exact absurd (hc3.symm.trans h1) hc
      rw [e1]; clear e1 F
      refine V_if_eq 12 d_mo_placeTold_8 (by decide) (by omega) (fun c8 => ?_) (fun c8 => by omega)
      refine V_aload_0 d_mo_placeTold_12 ?_
      refine V_iconst 3 d_mo_placeTold_13 ?_
      refine V_cvI1 d_mo_placeTold_14 ml_mo_252 mv_mo_newName (by decide) (Nat.le_of_ble_eq_true rfl) is_mo (ok_newName hT hw hE.1 hW (by decide) (by omega)) ?_
      rintro x F ⟨rfl, t2, k2⟩
      have t2 : mpS F T N (.inr (q, d)) := by
        have t3 : mpS F T N (pst (nwN S T N p e)) := t2
        rw [hn] at t3; exact t3
      have b2 := t2.2.2.2
      obtain ⟨ln, l2⟩ := k2.2 l q d hn
      have hF3 : F 246 3 = S 1 3 := by rw [k2.1 _ _ (by omega) (by omega)]; exact hc3
      refine V_istore_2 d_mo_placeTold_17 rfl ?_
      refine V_aload_0 d_mo_placeTold_18 ?_
      refine V_getI d_mo_placeTold_19 fl_mo_185 is_mo ?_
      rw [b2.1]
      refine V_if_ne 35 d_mo_placeTold_22 (by decide) (by omega) (fun c22 => by omega) (fun c22 => ?_)
      refine V_aload_0 d_mo_placeTold_25 ?_
      refine V_getR d_mo_placeTold_26 fl_mo_93 is_mo r_mo_many ?_
      refine V_iconst 3 d_mo_placeTold_29 ?_
      refine V_dup2 d_mo_placeTold_30 rfl rfl ?_
      refine V_iald d_mo_placeTold_31 is_mo_many (by omega) (by omega) ?_
      rw [hF3]
      refine V_iconst 1 d_mo_placeTold_32 ?_
      refine V_iadd d_mo_placeTold_33 ?_
      refine V_iast d_mo_placeTold_34 is_mo_many (by omega) (by omega) ?_
      refine V_return d_mo_placeTold_35 (hR _ ?_)
      refine ⟨?_, ?_, ?_⟩
      · exact (k2.z (by decide) (by omega)).up (by first | exact rd219 (by omega) | exact rd246 (by omega) | exact rd247 (by omega) | exact rd248 (by omega) | exact rd249 (by omega) | exact rd250 (by omega) | exact rd251 (by omega) | exact rd252 (by omega) | exact rd253 (by omega) | exact rd254 (by omega) | exact rd257 (by omega) (by omega))
      · exact t2.fr (fun j i hji => by rw [q_up_ne (by omega)])
      · exact hE.place hW ln (by omega) k2.1 l2
end RN4
