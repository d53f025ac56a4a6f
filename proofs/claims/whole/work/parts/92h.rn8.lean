/-! the reference reads sightings and shades: the state -/
section RN8
variable {D : q_D} {f f' f'' S S' : q_F} {A : q_As} {g h : Int} {T : Int → Int} {N p e : Int} {L : List Int}
theorem mE.seen (hE : mE f S L) (hW : pW S) {F S1 : q_F} (fr : ∀ j i, ¬ (j = 219 ∧ (i = 2 ∨ i = 4 ∨ i = 5 ∨ i = 6 ∨ i = 34)) → ¬ (j = 254 ∧ 5 * S 1 4 ≤ i) → ¬ (j = 246 ∧ i = 5) → F j i = f j i) (hc : F 246 5 = S 1 4 + 1) (hc1 : S1 1 4 = S 1 4 + 1) (an : ∀ j i, ¬ (j = 1 ∧ i = 4) → ¬ j = 46 + S 1 4 → S1 j i = S j i) (hr : ∀ k, 0 ≤ k → k < 5 → F 254 (5 * S 1 4 + k) = S1 (46 + S 1 4) k) : mE F S1 L := by
  have h0 := hW.1
  have h1 := hW.2.1
  have h2 := hW.2.2.1
  have h4 := hW.2.2.2.2.1
  have cn : ∀ i, ¬ i = 4 → S1 1 i = S 1 i := fun i hi => an _ _ (by omega) (by omega)
  obtain ⟨m1, m2, m3, m4, m5, m6, m7, m8, m9, m10⟩ := hE
  refine ⟨?_, ?_, ?_, ?_, ?_, ?_, ?_, ?_, ?_, ?_⟩
  · refine ⟨fun k a b => ?_, fun k w a b c d => ?_⟩
    · rw [fr _ _ (by omega) (by omega) (by omega), cn _ (by omega)]; exact m1.1 k a b
    · rw [cn _ (by omega)] at d
      rw [fr _ _ (by omega) (by omega) (by omega), an _ _ (by omega) (by omega)]; exact m1.2 k w a b c d
  · refine ⟨?_, ?_, ?_, ?_, ?_⟩
    · rw [fr _ _ (by omega) (by omega) (by omega), cn _ (by decide)]; exact m2.1
    · rw [hc, hc1]
    · rw [fr _ _ (by omega) (by omega) (by omega), cn _ (by decide)]; exact m2.2.2.1
    · rw [fr _ _ (by omega) (by omega) (by omega), an _ _ (by omega) (by omega)]; exact m2.2.2.2.1
    · rw [fr _ _ (by omega) (by omega) (by omega), an _ _ (by omega) (by omega)]; exact m2.2.2.2.2
  · exact m3.fr (fun k => fr _ _ (by omega) (by omega) (by omega)) ⟨cn _ (by decide), fun t w a b => an _ _ (by omega) (by omega)⟩
  · exact m4.fr (fun k => fr _ _ (by omega) (by omega) (by omega)) ⟨cn _ (by decide), cn _ (by decide), fun t w a b => an _ _ (by omega) (by omega)⟩
  · exact m5.fr (fun k => ⟨fr _ _ (by omega) (by omega) (by omega), fr _ _ (by omega) (by omega) (by omega)⟩) ⟨cn _ (by decide), cn _ (by decide), fun t w a b => ⟨an _ _ (by omega) (by omega), an _ _ (by omega) (by omega)⟩⟩
  · exact m6.fr (fun k => fr _ _ (by omega) (by omega) (by omega)) ⟨cn _ (by decide), fun t => an _ _ (by omega) (by omega)⟩
  · exact m7.fr (fun k => fr _ _ (by omega) (by omega) (by omega)) (fun t w a b => an _ _ (by omega) (by omega))
  · intro s k a b c d
    rw [hc1] at b
    by_cases es : s = S 1 4
    · rw [es]; exact hr k c d
    · rw [fr _ _ (by omega) (by omega) (by omega), an _ _ (by omega) (by omega)]; exact m8 s k a (by omega) c d
  · exact m9.fr (fun k => ⟨fr _ _ (by omega) (by omega) (by omega), fr _ _ (by omega) (by omega) (by omega), fr _ _ (by omega) (by omega) (by omega)⟩) ⟨cn _ (by decide), fun t => ⟨an _ _ (by omega) (by omega), an _ _ (by omega) (by omega)⟩⟩
  · exact ⟨by rw [fr _ _ (by omega) (by omega) (by omega)]; exact m10.1, fun k a => by rw [fr _ _ (by omega) (by omega) (by omega)]; exact m10.2 k a⟩
/-- roads stay symmetric -/
theorem rsy.add (hs : rsy S) {a b v : Int} (ha : 0 ≤ a ∧ a < 8) (hb : 0 ≤ b ∧ b < 8) : rsy (addR S a b v) := fun x y x0 x1 y0 y1 => by
  rw [addR_at ha hb ⟨x0, x1⟩, addR_at ha hb ⟨y0, y1⟩]
  by_cases h1 : (x = a ∧ y = b) ∨ (x = b ∧ y = a)
  · rw [if_pos h1, if_pos (by omega)]
  · rw [if_neg h1, if_neg (by omega)]; exact hs x y x0 x1 y0 y1
theorem rsy.fr (hs : rsy S) (h : ∀ a b, 0 ≤ a → a < 8 → S' (37 + a) b = S (37 + a) b) : rsy S' := fun x y x0 x1 y0 y1 => by
  rw [h x y x0 x1, h y x y0 y1]; exact hs x y x0 x1 y0 y1
end RN8
