/-! the reference reads persons -/
section RN5
variable {D : q_D} {f f' f'' S S' : q_F} {A : q_As} {g h : Int} {T : Int → Int} {N p e : Int} {L : List Int}
/-- what stands while a person's looks are read -/
def pJ (S f F S1 : q_F) (l : List Int) (k : Int) : Prop := (∀ j i, ¬ (j = 219 ∧ (i = 2 ∨ i = 4 ∨ i = 5 ∨ i = 6 ∨ i = 34)) → ¬ (j = 247 ∧ i = 8 * 1 + S 1 1) → ¬ (j = 249 ∧ 6 * S 1 1 ≤ i ∧ i < 6 * S 1 1 + 6) → F j i = f j i) ∧ F 247 (8 * 1 + S 1 1) = pk27 l ∧ (∀ t, 0 ≤ t → t < k → F 249 (6 * S 1 1 + t) = S1 (15 + S 1 1) t) ∧ ∀ j i, ¬ j = 15 + S 1 1 → S1 j i = addN S 1 (pk32 l) j i
theorem pJ.z {F S1 : q_F} {l : List Int} {k : Int} (h : pJ S f F S1 l k) (hlt : 0 ≤ S 1 1 ∧ S 1 1 < 8) : mZ f F := fun j i a => h.1 j i (fun b => a (rdx b)) (fun b => a (by obtain ⟨rfl, b⟩ := b; exact rd247 (by omega))) (fun b => a (by obtain ⟨rfl, b⟩ := b; exact rd249 (by omega)))
theorem mE.person (hE : mE f S L) (hW : pW S) {F S1 : q_F} {l : List Int} (ln : isNm l) (hlt : S 1 1 < 8) (hJ : pJ S f F S1 l (S 1 0)) : mE (q_up F 246 1 (S 1 1 + 1)) S1 L := by
  have hcn := hW.cn (k := 1) (by decide)
  obtain ⟨k2, l2, hv, hs⟩ := hJ
  have fr : ∀ j i, ¬ (j = 219 ∧ (i = 2 ∨ i = 4 ∨ i = 5 ∨ i = 6 ∨ i = 34)) → ¬ j = 247 → ¬ j = 249 → ¬ (j = 246 ∧ i = 1) → q_up F 246 1 (S 1 1 + 1) j i = f j i := fun j i a b c d => by
    rw [q_up_ne (by omega)]; exact k2 j i a (fun u => b u.1) (fun u => c u.1)
  have cn : ∀ i, ¬ i = 1 → S1 1 i = S 1 i := fun i hi => by rw [hs _ _ (by omega), addN_cn (by decide), if_neg hi]
  have c1 : S1 1 1 = S 1 1 + 1 := by rw [hs _ _ (by omega), addN_cn (by decide), if_pos rfl]
  have an : ∀ j i, ¬ j = 15 + S 1 1 → ¬ (j = 1 ∧ 0 ≤ i ∧ i < 4) ∧ ¬ (3 ≤ j ∧ j < 7) → S1 j i = S j i := fun j i a b => by rw [hs j i a]; exact addN_ne (by decide) b
  obtain ⟨m1, m2, m3, m4, m5, m6, m7, m8, m9, m10⟩ := hE
  refine ⟨?_, ?_, ?_, ?_, ?_, ?_, ?_, ?_, ?_, ?_⟩
  · refine m1.add hW (k := 1) (by decide) ln (fun i a b => ?_) (fun i a => ?_) (by omega) (fun i w a => hs _ _ (by omega))
    · split
      · next e => rw [e, q_up_eq]
      · next e => rw [fr _ _ (by omega) (by omega) (by omega) (by omega)]
    · rw [q_up_ne (by omega)]
      split
      · next e => rw [e]; exact l2
      · next e => exact k2 _ _ (by omega) (by omega) (by omega)
  · refine ⟨?_, ?_, ?_, ?_, ?_⟩
    · rw [fr _ _ (by decide) (by decide) (by decide) (by decide), cn _ (by decide)]; exact m2.1
    · rw [fr _ _ (by decide) (by decide) (by decide) (by decide), cn _ (by decide)]; exact m2.2.1
    · rw [fr _ _ (by decide) (by decide) (by decide) (by decide), cn _ (by decide)]; exact m2.2.2.1
    · rw [fr _ _ (by decide) (by decide) (by decide) (by decide), an _ _ (by omega) (by decide)]; exact m2.2.2.2.1
    · rw [fr _ _ (by decide) (by decide) (by decide) (by decide), an _ _ (by omega) (by decide)]; exact m2.2.2.2.2
  · have := hW.cn (k := 0) (by decide)
    have h6 := hW.1
    exact m3.fr (fun k => fr _ _ (by omega) (by omega) (by omega) (by omega)) ⟨cn _ (by decide), fun t w a b => an _ _ (by omega) (by omega)⟩
  · intro q t a b c d
    have h6 := hW.1
    rw [cn _ (by decide)] at d
    rw [c1] at b
    rw [q_up_ne (by omega)]
    by_cases eq : q = S 1 1
    · rw [eq]; exact hv t c d
    · rw [k2 _ _ (by omega) (by omega) (by omega), an _ _ (by omega) (by omega)]; exact m4 q t a (by omega) c d
  · exact m5.fr (fun k => ⟨fr _ _ (by omega) (by omega) (by omega) (by omega), fr _ _ (by omega) (by omega) (by omega) (by omega)⟩) ⟨cn _ (by decide), cn _ (by decide), fun t w a b => ⟨an _ _ (by omega) (by omega), an _ _ (by omega) (by omega)⟩⟩
  · exact m6.fr (fun k => fr _ _ (by omega) (by omega) (by omega) (by omega)) ⟨cn _ (by decide), fun t => an _ _ (by omega) (by omega)⟩
  · exact m7.fr (fun k => fr _ _ (by omega) (by omega) (by omega) (by omega)) (fun t w a b => an _ _ (by omega) (by omega))
  · exact m8.fr (fun k => fr _ _ (by omega) (by omega) (by omega) (by omega)) ⟨cn _ (by decide), fun t w a b => an _ _ (by omega) (by omega)⟩
  · exact m9.fr (fun k => ⟨fr _ _ (by omega) (by omega) (by omega) (by omega), fr _ _ (by omega) (by omega) (by omega) (by omega), fr _ _ (by omega) (by omega) (by omega) (by omega)⟩) ⟨cn _ (by decide), fun t => ⟨an _ _ (by omega) (by omega), an _ _ (by omega) (by omega)⟩⟩
  · exact ⟨by rw [fr _ _ (by decide) (by decide) (by decide) (by decide)]; exact m10.1, fun k a => by rw [fr _ _ (by omega) (by omega) (by omega) (by omega)]; exact m10.2 k a⟩
end RN5
