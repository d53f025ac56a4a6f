/-! the reference reads statements: a new name -/
section RN2
variable {D : q_D} {f f' S : q_F} {A : q_As} {g h : Int} {T : Int → Int} {N p e : Int}
/-- none of the first kinds, counted from k, bears a name -/
theorem gvn_iff {v : Int} : gvn S v = true ↔ ∃ k, (0 ≤ k ∧ k < 4) ∧ ¬ nmS S k v = -1 := by
  unfold gvn
  constructor
  · intro hg
    by_cases h0 : nmS S 0 v = -1
    · by_cases h1 : nmS S 1 v = -1
      · by_cases h2 : nmS S 2 v = -1
        · by_cases h3 : nmS S 3 v = -1
          · rw [h0, h1, h2, h3] at hg; exact absurd hg (by decide)
          · exact ⟨3, by decide, h3⟩
        · exact ⟨2, by decide, h2⟩
      · exact ⟨1, by decide, h1⟩
    · exact ⟨0, by decide, h0⟩
  · rintro ⟨k, hk, hn⟩
    by_cases h0 : nmS S 0 v = -1
    · by_cases h1 : nmS S 1 v = -1
      · by_cases h2 : nmS S 2 v = -1
        · by_cases h3 : nmS S 3 v = -1
          · exfalso
            have : k = 0 ∨ k = 1 ∨ k = 2 ∨ k = 3 := by omega
            rcases this with e | e | e | e <;> rw [e] at hn <;> exact hn ‹_›
          · rw [decide_eq_false h3, Bool.and_false, Bool.and_false, Bool.and_false]; rfl
        · rw [decide_eq_false h2, Bool.false_and, Bool.and_false, Bool.and_false]; rfl
      · rw [decide_eq_false h1, Bool.false_and, Bool.and_false]; rfl
    · rw [decide_eq_false h0, Bool.false_and]; rfl
/-- a name is written behind the last of its kind -/
def mKn (S f f' : q_F) (k : Int) (r : q_R (List Int × Int × Int)) : Prop := (∀ j i, ¬ (j = 219 ∧ (i = 2 ∨ i = 4 ∨ i = 5 ∨ i = 6 ∨ i = 34)) → ¬ (j = 247 ∧ i = 8 * k + S 1 k) → f' j i = f j i) ∧ ∀ l q d, r = .inr (l, q, d) → isNm l ∧ f' 247 (8 * k + S 1 k) = pk27 l
theorem ok_newName {s : q_R (Int × Int)} (hT : mpS f T N s) (hw : mW f) (hM : mN f S) (hW : pW S) {k : Int} (hk : 0 ≤ k ∧ k < 4) (hlt : S 1 k < 8) : OkI D m_mo_newName [vr D 219, vi k] (Zg g h) f (fun x f' => x = S 1 k ∧ mpS f' T N (pst (rb s (fun u => nwN S T N u.1 u.2))) ∧ mKn S f f' k (rb s (fun u => nwN S T N u.1 u.2))) := by
  have hcn := hW.cn hk
  refine OkI_of (L0 := [vr D 219, vi k, vu, vu, vu]) mi_mo_newName rfl rfl (Nat.le_of_ble_eq_true rfl) (fun C hR => ?_)
  have bad : ∀ (F : q_F) (x j : Int) (e0 : Int × Int), mpS F T N (.inl e0) → mK f F → (0 ≤ x ∧ x < 387420489) → (0 ≤ j ∧ j ≤ 4) → rb s (fun u => nwN S T N u.1 u.2) = .inl e0 → V D C m_mo_newName 8 [vr D 219, vi k, vl x, vu, vi j] [] (Zg g h) F := by
    intro F x j e0 t1 k1 x1 j1 hr
    have b1 := t1.2.2.2
    have hM1 := k1.n hM hW
    have hc := hM1.1 k hk.1 hk.2
    rw [hr] at hR
    refine V_iload_4 d_mo_newName_8 ?_
    refine V_iconst 4 d_mo_newName_10 ?_
    refine V_icmp_ge 47 d_mo_newName_11 (by decide) (by omega) (by omega) (fun c11 => ?_) (fun c11 => ?_)
    · skip
      refine V_aload_0 d_mo_newName_47 ?_
      refine V_getR d_mo_newName_48 fl_mo_93 is_mo r_mo_many ?_
      refine V_iload_1 d_mo_newName_51 ?_
      refine V_iald d_mo_newName_52 is_mo_many (by omega) (by omega) ?_
      rw [hc]
      refine V_istore_4 d_mo_newName_53 rfl ?_
      refine V_aload_0 d_mo_newName_55 ?_
      refine V_getI d_mo_newName_56 fl_mo_185 is_mo ?_
      rw [b1.1]
      refine V_if_ne 75 d_mo_newName_59 (by decide) (by omega) (fun c59 => ?_) (fun c59 => by omega)
      refine V_iload_4 d_mo_newName_75 ?_
      refine V_ireturn d_mo_newName_77 (hR _ _ ?_)
      exact ⟨rfl, t1, fun j i a _ => k1 j i a, fun l q d h => by cases h⟩
    · skip
      refine V_aload_0 d_mo_newName_14 ?_
      refine V_getI d_mo_newName_15 fl_mo_185 is_mo ?_
      rw [b1.1]
      refine V_if_ne 47 d_mo_newName_18 (by decide) (by omega) (fun c18 => ?_) (fun c18 => by omega)
      refine V_aload_0 d_mo_newName_47 ?_
      refine V_getR d_mo_newName_48 fl_mo_93 is_mo r_mo_many ?_
      refine V_iload_1 d_mo_newName_51 ?_
      refine V_iald d_mo_newName_52 is_mo_many (by omega) (by omega) ?_
      rw [hc]
      refine V_istore_4 d_mo_newName_53 rfl ?_
      refine V_aload_0 d_mo_newName_55 ?_
      refine V_getI d_mo_newName_56 fl_mo_185 is_mo ?_
      rw [b1.1]
      refine V_if_ne 75 d_mo_newName_59 (by decide) (by omega) (fun c59 => ?_) (fun c59 => by omega)
      refine V_iload_4 d_mo_newName_75 ?_
      refine V_ireturn d_mo_newName_77 (hR _ _ ?_)
      exact ⟨rfl, t1, fun j i a _ => k1 j i a, fun l q d h => by cases h⟩
  have good : ∀ (p e q d : Int) (l : List Int), s = .inr (p, e) → l_name T N p e = .inr (l, q, d) → ∀ (m : Nat) (j : Int) (F : q_F), j + m = 4 → 0 ≤ j → (∀ i, 0 ≤ i → i < j → nmS S i (pk32 l) = -1) → mpS F T N (.inr (q, d)) → mK f F → F 219 34 = p → V D C m_mo_newName 8 [vr D 219, vi k, vl (pk27 l), vu, vi j] [] (Zg g h) F := by
    intro p e q d l hs0 hl m
    have hT1 := hT
    rw [hs0] at hT1
    have ln := (l_name_rg hT1.pr.2.1 hl).1
    have x1 := pk27_rg ln.2.2 ln.2.1
    have hs : rb s (fun u => nwN S T N u.1 u.2) = if gvn S (pk32 l) then .inl (3, p) else .inr (l, q, d) := by rw [hs0]; show nwN S T N p e = _; unfold nwN; rw [hl]; rfl
    induction m with
    | zero =>
      intro j F jm j0 hj t1 k1 x3
      have hM1 := k1.n hM hW
      have hc := hM1.1 k hk.1 hk.2
      have b1 := t1.2.2.2.1
      have hg : ¬ gvn S (pk32 l) = true := fun hg => by
        obtain ⟨i, hi, hn⟩ := gvn_iff.mp hg
        exact hn (hj i hi.1 (by omega))
      rw [if_neg hg] at hs
      rw [hs] at hR
      refine V_iload_4 d_mo_newName_8 ?_
      refine V_iconst 4 d_mo_newName_10 ?_
      refine V_icmp_ge 47 d_mo_newName_11 (by decide) (by omega) (by omega) (fun c11 => ?_) (fun c11 => by omega)
      refine V_aload_0 d_mo_newName_47 ?_
      refine V_getR d_mo_newName_48 fl_mo_93 is_mo r_mo_many ?_
      refine V_iload_1 d_mo_newName_51 ?_
      refine V_iald d_mo_newName_52 is_mo_many (by omega) (by omega) ?_
      rw [hc]
      refine V_istore_4 d_mo_newName_53 rfl ?_
      refine V_aload_0 d_mo_newName_55 ?_
      refine V_getI d_mo_newName_56 fl_mo_185 is_mo ?_
      rw [b1]
      refine V_if_ne 75 d_mo_newName_59 (by decide) (by omega) (fun c59 => by omega) (fun c59 => ?_)
      refine V_aload_0 d_mo_newName_62 ?_
      refine V_getR d_mo_newName_63 fl_mo_96 is_mo r_mo_names ?_
      refine V_bipush 8 d_mo_newName_66 (by decide) ?_
      refine V_iload_1 d_mo_newName_68 ?_
      refine V_imul d_mo_newName_69 ?_
      refine V_iload_4 d_mo_newName_70 ?_
      refine V_iadd d_mo_newName_72 ?_
      refine V_lload_2 d_mo_newName_73 ?_
      refine V_last d_mo_newName_74 is_mo_names (by omega) (by omega) ?_
      refine V_iload_4 d_mo_newName_75 ?_
      refine V_ireturn d_mo_newName_77 (hR _ _ ?_)
      refine ⟨rfl, ?_, fun j i a b => ?_, fun l' q' d' h => ?_⟩
      · exact t1.fr (fun j i hji => by rw [q_up_ne (by omega)])
      · rw [q_up_ne (by omega)]; exact k1 j i a
      · cases h; exact ⟨ln, q_up_eq _ _ _ _⟩
    | succ m ih =>
      intro j F jm j0 hj t1 k1 x3
      have hM1 := k1.n hM hW
      have b1 := t1.2.2.2.1
      have rg := nmS_rg hW (k := j) (by omega) (pk32 l)
      have hcj := hW.cn (k := j) (by omega)
      refine V_iload_4 d_mo_newName_8 ?_
      refine V_iconst 4 d_mo_newName_10 ?_
      refine V_icmp_ge 47 d_mo_newName_11 (by decide) (by omega) (by omega) (fun c11 => by omega) (fun c11 => ?_)
      refine V_aload_0 d_mo_newName_14 ?_
      refine V_getI d_mo_newName_15 fl_mo_185 is_mo ?_
      rw [b1]
      refine V_if_ne 47 d_mo_newName_18 (by decide) (by omega) (fun c18 => by omega) (fun c18 => ?_)
      refine V_aload_0 d_mo_newName_21 ?_
      refine V_iload_4 d_mo_newName_22 ?_
      refine V_lload_2 d_mo_newName_24 ?_
      refine V_cvI2 d_mo_newName_25 ml_mo_244 mv_mo_nameOf (by decide) (Nat.le_of_ble_eq_true rfl) is_mo (ok_nameOf hM1 hW (k := j) (by omega) x1 (v' := pk32 l) (hM1.iff (by omega) ln)) ?_
      rintro _ f2 ⟨rfl, e2⟩
      rw [e2]; clear e2 f2
      refine V_iconst (-1) d_mo_newName_28 ?_
      refine V_icmp_eq 41 d_mo_newName_29 (by decide) (by omega) (by omega) (fun c29 => ?_) (fun c29 => ?_)
      · skip
        refine V_iinc_4 d_mo_newName_41 rfl ?_
        refine V_goto 8 d_mo_newName_44 (by decide) ?_
        exact ih _ _ (by omega) (by omega) (fun i a b => by
          by_cases e : i = j
          · rw [e]; exact c29
          · exact hj i a (by omega)) t1 k1 x3
      · skip
        refine V_aload_0 d_mo_newName_32 ?_
        refine V_iconst 3 d_mo_newName_33 ?_
        refine V_aload_0 d_mo_newName_34 ?_
        refine V_getI d_mo_newName_35 fl_mo_233 is_mo ?_
        rw [x3]
        refine V_cvV2 d_mo_newName_38 ml_mo_215 mv_mo_fail (by decide) (Nat.le_of_ble_eq_true rfl) is_mo (ok_mfail t1 (by decide)) ?_
        rintro F2 ⟨t2, k2⟩
        refine V_iinc_4 d_mo_newName_41 rfl ?_
        refine V_goto 8 d_mo_newName_44 (by decide) ?_
        exact bad _ _ _ _ t2 (k1.tr k2) x1 (by omega) (by rw [hs, if_pos (gvn_iff.mpr ⟨j, by omega, c29⟩)])
  refine V_aload_0 d_mo_newName_0 ?_
  refine V_cvL0 d_mo_newName_1 ml_mo_240 mv_mo_name (by decide) (Nat.le_of_ble_eq_true rfl) is_mo (ok_name hT hw) ?_
  rintro x F ⟨t1, k1, x1, h1⟩
  refine V_lstore_2 d_mo_newName_4 rfl ?_
  refine V_iconst 0 d_mo_newName_5 ?_
  refine V_istore_4 d_mo_newName_6 rfl ?_
  cases s with
  | inl e0 => exact bad F x _ e0 t1 k1 x1 (by decide) rfl
  | inr u =>
    obtain ⟨p, e⟩ := u
    have hn : rb (.inr (p, e) : q_R (Int × Int)) (fun s => l_name T N s.1 s.2) = l_name T N p e := rfl
    rw [hn] at t1 h1
    cases hl : l_name T N p e with
    | inl e0 =>
      rw [hl] at t1
      exact bad F x _ e0 t1 k1 x1 (by decide) (by show nwN S T N p e = _; unfold nwN; rw [hl]; rfl)
    | inr w =>
      obtain ⟨l, q, d⟩ := w
      obtain ⟨x2, x3⟩ := h1 l q d hl
      rw [hl] at t1
      rw [x2]
      exact good p e q d l rfl hl 4 _ F (by decide) (by decide) (fun i a b => by omega) t1 k1 (x3 p e rfl)
end RN2
