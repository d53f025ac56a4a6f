/-! the reference reads shades: the state -/
section RN9
variable {D : q_D} {f f' f'' S S' : q_F} {A : q_As} {g h : Int} {T : Int → Int} {N p e : Int} {L : List Int}
theorem mE.shade (hE : mE f S L) (hW : pW S) {F S1 : q_F} {l : List Int} (ln : isNm l) (hlt : S 1 2 < 5) (k2 : ∀ j i, ¬ (j = 219 ∧ (i = 2 ∨ i = 4 ∨ i = 5 ∨ i = 6 ∨ i = 34)) → ¬ (j = 247 ∧ i = 8 * 2 + S 1 2) → ¬ ((j = 250 ∨ j = 251) ∧ 6 * S 1 2 ≤ i ∧ i < 6 * S 1 2 + 6) → ¬ (j = 252 ∧ i = S 1 2) → F j i = f j i) (l2 : F 247 (8 * 2 + S 1 2) = pk27 l) (hv : ∀ t, 0 ≤ t → t < S 1 0 → F 250 (6 * S 1 2 + t) = S1 (24 + S 1 2) t ∧ F 251 (6 * S 1 2 + t) = S1 (30 + S 1 2) t) (hfe : F 252 (S 1 2) = S1 35 (S 1 2)) (hs : ∀ j i, ¬ j = 24 + S 1 2 → ¬ j = 30 + S 1 2 → ¬ (j = 35 ∧ i = S 1 2) → S1 j i = addN S 2 (pk32 l) j i) : mE (q_up F 246 2 (S 1 2 + 1)) S1 L := by
  have hcn := hW.cn (k := 2) (by decide)
  have h6 := hW.1
  have h8 := hW.2.1
  have fr : ∀ j i, ¬ (j = 219 ∧ (i = 2 ∨ i = 4 ∨ i = 5 ∨ i = 6 ∨ i = 34)) → ¬ j = 247 → ¬ (250 ≤ j ∧ j ≤ 252) → ¬ (j = 246 ∧ i = 2) → q_up F 246 2 (S 1 2 + 1) j i = f j i := fun j i a b c d => by
    rw [q_up_ne (by omega)]; exact k2 j i a (fun u => b u.1) (by omega) (by omega)
  have cn : ∀ i, ¬ i = 2 → S1 1 i = S 1 i := fun i hi => by rw [hs _ _ (by omega) (by omega) (by omega), addN_cn (by decide), if_neg hi]
  have c1 : S1 1 2 = S 1 2 + 1 := by rw [hs _ _ (by omega) (by omega) (by omega), addN_cn (by decide), if_pos rfl]
  have an : ∀ j i, ¬ j = 24 + S 1 2 → ¬ j = 30 + S 1 2 → ¬ (j = 35 ∧ i = S 1 2) → ¬ (j = 1 ∧ 0 ≤ i ∧ i < 4) ∧ ¬ (3 ≤ j ∧ j < 7) → S1 j i = S j i := fun j i a b c d => by rw [hs j i a b c]; exact addN_ne (by decide) d
  obtain ⟨m1, m2, m3, m4, m5, m6, m7, m8, m9, m10⟩ := hE
  refine ⟨?_, ?_, ?_, ?_, ?_, ?_, ?_, ?_, ?_, ?_⟩
  · refine m1.add hW (k := 2) (by decide) ln (fun i a b => ?_) (fun i a => ?_) (by omega) (fun i w a => hs _ _ (by omega) (by omega) (by omega))
    · split
      · next e => rw [e, q_up_eq]
      · next e => rw [fr _ _ (by omega) (by omega) (by omega) (by omega)]
    · rw [q_up_ne (by omega)]
      split
      · next e => rw [e]; exact l2
      · next e => exact k2 _ _ (by omega) (by omega) (by omega) (by omega)
  · refine ⟨?_, ?_, ?_, ?_, ?_⟩
    · rw [fr _ _ (by decide) (by decide) (by decide) (by decide), cn _ (by decide)]; exact m2.1
    · rw [fr _ _ (by decide) (by decide) (by decide) (by decide), cn _ (by decide)]; exact m2.2.1
    · rw [fr _ _ (by decide) (by decide) (by decide) (by decide), cn _ (by decide)]; exact m2.2.2.1
    · rw [fr _ _ (by decide) (by decide) (by decide) (by decide), an _ _ (by omega) (by omega) (by omega) (by decide)]; exact m2.2.2.2.1
    · rw [fr _ _ (by decide) (by decide) (by decide) (by decide), an _ _ (by omega) (by omega) (by omega) (by decide)]; exact m2.2.2.2.2
  · exact m3.fr (fun k => fr _ _ (by omega) (by omega) (by omega) (by omega)) ⟨cn _ (by decide), fun t w a b => an _ _ (by omega) (by omega) (by omega) (by omega)⟩
  · exact m4.fr (fun k => fr _ _ (by omega) (by omega) (by omega) (by omega)) ⟨cn _ (by decide), cn _ (by decide), fun t w a b => an _ _ (by omega) (by omega) (by omega) (by omega)⟩
  · intro q t a b c d
    rw [cn _ (by decide)] at d
    rw [c1] at b
    rw [q_up_ne (by omega), q_up_ne (by omega)]
    by_cases eq : q = S 1 2
    · rw [eq]; exact hv t c d
    · rw [k2 _ _ (by omega) (by omega) (by omega) (by omega), k2 _ _ (by omega) (by omega) (by omega) (by omega), an _ _ (by omega) (by omega) (by omega) (by omega), an _ _ (by omega) (by omega) (by omega) (by omega)]; exact m5 q t a (by omega) c d
  · intro q a b
    rw [c1] at b
    rw [q_up_ne (by omega)]
    by_cases eq : q = S 1 2
    · rw [eq]; exact hfe
    · rw [k2 _ _ (by omega) (by omega) (by omega) (by omega), an _ _ (by omega) (by omega) (by omega) (by omega)]; exact m6 q a (by omega)
  · exact m7.fr (fun k => fr _ _ (by omega) (by omega) (by omega) (by omega)) (fun t w a b => an _ _ (by omega) (by omega) (by omega) (by omega))
  · exact m8.fr (fun k => fr _ _ (by omega) (by omega) (by omega) (by omega)) ⟨cn _ (by decide), fun t w a b => an _ _ (by omega) (by omega) (by omega) (by omega)⟩
  · exact m9.fr (fun k => ⟨fr _ _ (by omega) (by omega) (by omega) (by omega), fr _ _ (by omega) (by omega) (by omega) (by omega), fr _ _ (by omega) (by omega) (by omega) (by omega)⟩) ⟨cn _ (by decide), fun t => ⟨an _ _ (by omega) (by omega) (by omega) (by omega), an _ _ (by omega) (by omega) (by omega) (by omega)⟩⟩
  · exact ⟨by rw [fr _ _ (by decide) (by decide) (by decide) (by decide)]; exact m10.1, fun k a => by rw [fr _ _ (by omega) (by omega) (by omega) (by omega)]; exact m10.2 k a⟩
end RN9
