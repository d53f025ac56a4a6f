/-! what a text keeps: statements -/
section INV2
variable {S S' : q_F} {T : Int → Int} {N p e : Int} {L : List Int}
theorem pX.tr : ∀ (m : Nat) (t : Int) (S S' : q_F) (p e q d : Int), pX S L → pW S → S 1 0 = t → S 1 1 = 0 → S 1 2 = 0 → t + m = 6 → 0 ≤ t → p ≤ N → sTr T N m t S p e = .inr (S', q, d) → pX S' L ∧ S' 0 13 = S 0 13 := by
  intro m
  induction m with
  | zero => intro t S S' p e q d h hW c0 c1 c2 hm h0 hp hs; cases hs; exact ⟨h, rfl⟩
  | succ m ih =>
    intro t S S' p e q d h hW c0 c1 c2 hm h0 hp hs
    obtain ⟨⟨S1, q1, d1⟩, h1, hs⟩ := rb_inr (show rb (sTr1 T N t S p e) (fun s => if t < 5 ∧ lk T N s.2.1 = 44 then sTr T N m (t + 1) s.1 (sk T N (s.2.1 + 1)) s.2.2 else .inr s) = .inr (S', q, d) from hs)
    obtain ⟨⟨S2, q2, d2⟩, h2, h3⟩ := rb_inr (show rb (sNew S T N 0 p e) (fun s => sTr2 T N t s.1 s.2.1 s.2.2) = .inr (S1, q1, d1) from h1)
    have a1 := sNew_W hW (k := 0) (by decide) (by rw [c0]; show t < 6; omega) hp h2
    have a2 := sNew_ge hp h2
    obtain ⟨l, hl, rfl⟩ := sNew_in hp h2
    obtain ⟨⟨S3, q3, d3⟩, h4, h5⟩ := rb_inr (show rb (sNum (addN S 0 (pk32 l)) T N (8 + t) 0 0 100 q2 d2) (fun s => sTr3 T N t s.1 s.2.1 s.2.2) = .inr (S1, q1, d1) from h3)
    have a4 := sNum_ge a2.2 h4
    obtain ⟨v1, hv1, rfl⟩ := sNum_in h4
    have h5 : sNum (q_up (addN S 0 (pk32 l)) (8 + t) 0 v1) T N (8 + t) 1 0 100 q3 d3 = .inr (S1, q1, d1) := h5
    have a6 := sNum_ge a4.2 h5
    obtain ⟨v2, hv2, hS1⟩ := sNum_in h5
    have an : ∀ j i, ¬ j = 8 + t → S1 j i = addN S 0 (pk32 l) j i := fun j i hj => by rw [hS1, q_up_ne (by omega), q_up_ne (by omega)]
    have cn : ∀ i, ¬ i = 0 → S1 1 i = S 1 i := fun i hi => by rw [an _ _ (by omega), addN_cn (by decide), if_neg hi]
    have c10 : S1 1 0 = t + 1 := by rw [an _ _ (by omega), addN_cn (by decide), if_pos rfl, c0]
    have sn : ∀ j i, ¬ j = 8 + t → ¬ (j = 1 ∧ 0 ≤ i ∧ i < 4) ∧ ¬ (3 ≤ j ∧ j < 7) → S1 j i = S j i := fun j i a b => by rw [an j i a]; exact addN_ne (by decide) b
    have w0 : S1 (8 + t) 0 = v1 := by rw [hS1, q_up_ne (by omega), q_up_eq]
    have w1 : S1 (8 + t) 1 = v2 := by rw [hS1, q_up_eq]
    have hW1 : pW S1 := by rw [hS1]; exact (a1.1.up2 (by omega)).up2 (by omega)
    clear hS1 h5 h4 h3 h2
    obtain ⟨x1, x2, x3, x4, x5, x6, x7, x8⟩ := h
    have s13 : S1 0 13 = S 0 13 := sn _ _ (by omega) (by omega)
    have hX1 : pX S1 L := by
      refine ⟨x1.fr (fun a b _ _ => sn _ _ (by omega) (by omega)) (by rw [cn _ (by decide)]; omega), x2.fr (cn _ (by decide)) (by rw [cn _ (by decide)]; omega) (by rw [cn _ (by decide)]; omega) (fun s k _ _ => sn _ _ (by omega) (by omega)), ?_, ?_, ?_, ?_, x7.add hl (by decide) (fun i w hi => an _ _ (by omega)), x8.fr (cn _ (by decide)) (fun k => ⟨sn _ _ (by omega) (by omega), sn _ _ (by omega) (by omega)⟩)⟩
      · intro i i0 i1; rw [cn _ (by decide), c2] at i1; omega
      · intro i t' i0 i1; rw [cn _ (by decide), c1] at i1; omega
      · intro t' w t0 t1 w0' w1'
        rw [c10] at t1
        by_cases et : t' = t
        · rw [et]
          rcases (show w = 0 ∨ w = 1 by omega) with e1 | e1
          · rw [e1, w0]; exact hv1
          · rw [e1, w1]; exact hv2
        · rw [sn _ _ (by omega) (by omega)]; exact x5 t' w t0 (by omega) w0' w1'
      · unfold xTi; rw [sn _ _ (by omega) (by omega)]; exact x6
    have hs : (if t < 5 ∧ lk T N q1 = 44 then sTr T N m (t + 1) S1 (sk T N (q1 + 1)) d1 else .inr (S1, q1, d1)) = .inr (S', q, d) := hs
    split at hs
    · next hlk =>
      have hq := lk_of (by decide) hlk.2
      have hsk := sk_ge (T := T) hq.1
      have := ih (t + 1) S1 S' _ d1 q d hX1 hW1 c10 (by rw [cn _ (by decide)]; exact c1) (by rw [cn _ (by decide)]; exact c2) (by omega) (by omega) hsk.2 hs
      exact ⟨this.1, by rw [this.2, s13]⟩
    · cases hs; exact ⟨hX1, s13⟩
theorem pX.stm (b : Bool) (h : pX S L) (hW : pW S) (hb : b = true → S 1 0 = 0 ∧ S 1 1 = 0 ∧ S 1 2 = 0) (h0 : 0 ≤ p) (hp : p ≤ N) (hN : N ≤ 1600) {L' : List Int} {q d : Int} (hs : sStm b S T N L p e = .inr (S', L', q, d)) : pX S' L' ∧ S' 0 13 = S 0 13 := by
  have lfo : ∀ (r : q_R (q_F × Int × Int)), (∀ S1 q1 d1, r = .inr (S1, q1, d1) → pX S1 L ∧ S1 0 13 = S 0 13) → lf L r = .inr (S', L', q, d) → pX S' L' ∧ S' 0 13 = S 0 13 := by
    intro r hr hl
    cases r with
    | inl e => cases hl
    | inr s => cases hl; exact hr s.1 s.2.1 s.2.2 rfl
  have bg : ∀ (k : Int) (X : Int → Int → q_PR), (S 1 k < mst k → X (sk T N (le T N p)) (le T N p) = .inr (S', L', q, d) → pX S' L' ∧ S' 0 13 = S 0 13) → bgn S T N k p X = .inr (S', L', q, d) → pX S' L' ∧ S' 0 13 = S 0 13 := by
    intro k X hX hl
    unfold bgn at hl
    split at hl
    · next hk => exact hX hk hl
    · cases hl
  have ge : ¬ wd T N p e = -1 → p ≤ sk T N (le T N p) ∧ sk T N (le T N p) ≤ N := fun hne => by
    have := wd_ge (T := T) hp hne; omega
  unfold sStm at hs
  cases b with
  | true =>
    rw [if_pos rfl] at hs
    split at hs
    · next hw =>
      have g := ge (by omega)
      obtain ⟨h10, h11, h12⟩ := hb rfl
      exact lfo _ (fun S1 q1 d1 h1 => pX.tr 6 0 S S1 _ _ q1 d1 h hW h10 h11 h12 (by decide) (by decide) g.2 h1) hs
    · cases hs
  | false =>
    rw [if_neg (by decide)] at hs
    split at hs
    · next hw => have g := ge (by omega); exact bg 1 _ (fun hr => lfo _ (fun S1 q1 d1 h1 => h.person hW hr g.2 h1)) hs
    · split at hs
      · next hw => have g := ge (by omega); exact bg 2 _ (fun hr => lfo _ (fun S1 q1 d1 h1 => h.shade hW hr g.2 h1)) hs
      · split at hs
        · next hw => have g := ge (by omega); exact bg 3 _ (fun hr => lfo _ (fun S1 q1 d1 h1 => h.place hW hr g.2 h1)) hs
        · split at hs
          · next hw => have g := ge (by omega); exact bg 6 _ (fun hr => lfo _ (fun S1 q1 d1 h1 => h.road hW g.2 h1)) hs
          · split at hs
            · next hw => have g := ge (by omega); exact bg 4 _ (fun hr => lfo _ (fun S1 q1 d1 h1 => h.seen hW hr g.2 h1)) hs
            · split at hs
              · next hw => have g := ge (by omega); exact bg 5 _ (fun hr h1 => h.rule hW hr (by omega) g.2 hN h1) hs
              · split at hs
                · next hw =>
                  have g := ge (by omega)
                  refine lfo _ (fun S1 q1 d1 h1 => ?_) hs
                  obtain ⟨v, hv, rfl⟩ := sNum_in h1
                  exact ⟨h.num (Or.inr ⟨rfl, hv⟩), q_up_ne (by omega)⟩
                · cases hs
/-- the first statement's premises -/
theorem pX_clr (S : q_F) : pX (clrS S) [] := by
  have c1 : ∀ k, 0 ≤ k → k < 7 → clrS S 1 k = 0 := fun k a b => by unfold clrS; rw [if_neg (by omega), if_pos ⟨rfl, a, b⟩]
  have ro : ∀ a b, 0 ≤ a → a < 8 → 0 ≤ b → b < 8 → clrS S (37 + a) b = if a = b then 0 else 1000 := fun a b a0 a1 b0 b1 => by
    unfold clrS; rw [if_neg (by omega), if_neg (by omega), if_pos (by omega), show 37 + a - 37 = a by omega]
  refine ⟨fun a b a0 a1 b0 b1 => ?_, fun s s0 s1 => ?_, fun s s0 s1 => ?_, fun s t s0 s1 => ?_, fun s t s0 s1 => ?_, ?_, fun i w i0 i1 w0 w1 => ?_, fun r r0 r1 => ?_, fun h => ?_⟩
  · rw [ro a b a0 a1 b0 b1, ro b a b0 b1 a0 a1, ro a a a0 a1 a0 a1]
    refine ⟨?_, if_pos rfl, fun hn _ => if_neg hn⟩
    by_cases e : a = b
    · rw [if_pos e, if_pos e.symm]
    · rw [if_neg e, if_neg (fun x => e x.symm)]
  · rw [c1 _ (by decide) (by decide)] at s1; omega
  · rw [c1 _ (by decide) (by decide)] at s1; omega
  · rw [c1 _ (by decide) (by decide)] at s1; omega
  · rw [c1 _ (by decide) (by decide)] at s1; omega
  · unfold xTi clrS; rw [if_pos ⟨rfl, Or.inr rfl⟩]; decide
  · rw [c1 _ i0 (by omega)] at w1; omega
  · rw [c1 _ (by decide) (by decide)] at r1; omega
  · rw [c1 _ (by decide) (by decide)] at h; omega
/-- what a whole text keeps -/
def gOk (r : q_PR) : Prop := ∀ S L q d, r = .inr (S, L, q, d) → pW S ∧ pX S L ∧ (L.length : Int) ≤ 1600 ∧ (1 ≤ S 0 13 ∧ S 0 13 ≤ 90)
theorem sEnd_in {r : q_PR} {L' : List Int} {q d : Int} (h : sEnd T N r = .inr (S', L', q, d)) : ∃ S1 q1 d1, r = .inr (S1, L', q1, d1) ∧ l_sign T N 59 q1 d1 = .inr (q, d) ∧ S' = q_up S1 0 13 (S1 0 13 + 1) := by
  unfold sEnd at h
  obtain ⟨⟨S1, L1, q1, d1⟩, h1, h2⟩ := rb_inr h
  obtain ⟨⟨q2, d2⟩, h3, h4⟩ := rb_inr (show rb (l_sign T N 59 q1 d1) (fun u => .inr (q_up S1 0 13 (S1 0 13 + 1), L1, u.1, u.2)) = .inr (S', L', q, d) from h2)
  cases h4
  exact ⟨S1, q1, d1, h1, h3, rfl⟩
theorem sLoop_ok (hN : N ≤ 1600) : ∀ (m : Nat) (S : q_F) (L : List Int) (p e : Int), pW S → pX S L → 0 ≤ p → p ≤ N → (L.length : Int) ≤ p → S 0 13 + m = 90 → 1 ≤ S 0 13 → gOk (sLoop T N m S L p e) := by
  intro m
  induction m with
  | zero =>
    intro S L p e hW hX p0 pN hL hm h1 S' L' q d h
    have h : (if lk T N p = -1 then .inr (S, L, p, e) else .inl (5, p) : q_PR) = .inr (S', L', q, d) := h
    split at h
    · cases h; exact ⟨hW, hX, by omega, by omega⟩
    · cases h
  | succ m ih =>
    intro S L p e hW hX p0 pN hL hm h1 S' L' q d h
    have h : (if lk T N p = -1 then .inr (S, L, p, e) else rb (sStm false S T N L p e) (fun s => rb (l_sign T N 59 s.2.2.1 s.2.2.2) (fun u => sLoop T N m (q_up s.1 0 13 (s.1 0 13 + 1)) s.2.1 u.1 u.2)) : q_PR) = .inr (S', L', q, d) := h
    split at h
    · cases h; exact ⟨hW, hX, by omega, by omega⟩
    · obtain ⟨⟨S1, L1, q1, d1⟩, g1, h⟩ := rb_inr h
      obtain ⟨⟨q2, d2⟩, g2, h⟩ := rb_inr (show rb (l_sign T N 59 q1 d1) (fun u => sLoop T N m (q_up S1 0 13 (S1 0 13 + 1)) L1 u.1 u.2) = .inr (S', L', q, d) from h)
      have k1 := sStm_ok false hW (fun h => by cases h) p0 pN hN hL g1
      have k2 := pX.stm false hX hW (fun h => by cases h) p0 pN hN g1
      have k3 := l_sign_some (by decide) g2
      exact ih _ L1 q2 d2 (k1.1.up2 (Or.inl rfl)) (k2.1.num (Or.inl rfl)) (by omega) (by omega) (by omega) (by rw [q_up_eq, k2.2]; push_cast at hm; omega) (by rw [q_up_eq, k2.2]; omega) S' L' q d h
theorem sText_ok (h0 : 0 ≤ N) (hN : N ≤ 1600) (S : q_F) : gOk (sText T N S) := by
  intro S' L' q d h
  have hsk := sk_rg (T := T) (N := N) (p := 0) h0
  have c1 : ∀ k, 0 ≤ k → k < 7 → clrS S 1 k = 0 := fun k a b => by unfold clrS; rw [if_neg (by omega), if_pos ⟨rfl, a, b⟩]
  have c13 : clrS S 0 13 = 0 := by unfold clrS; rw [if_pos ⟨rfl, Or.inl rfl⟩]
  obtain ⟨⟨S1, L1, q1, d1⟩, g1, h⟩ := rb_inr (show rb (sStm true (clrS S) T N [] (sk T N 0) (-1)) (fun s => rb (l_sign T N 59 s.2.2.1 s.2.2.2) (fun u => sLoop T N 89 (q_up s.1 0 13 (s.1 0 13 + 1)) s.2.1 u.1 u.2)) = .inr (S', L', q, d) from h)
  obtain ⟨⟨q2, d2⟩, g2, h⟩ := rb_inr (show rb (l_sign T N 59 q1 d1) (fun u => sLoop T N 89 (q_up S1 0 13 (S1 0 13 + 1)) L1 u.1 u.2) = .inr (S', L', q, d) from h)
  have k1 := sStm_ok true (pW_clr S) (fun _ => c1 0 (by decide) (by decide)) (by omega) hsk.2 hN (by show (0 : Int) ≤ _; omega) g1
  have k2 := pX.stm true (pX_clr S) (pW_clr S) (fun _ => ⟨c1 0 (by decide) (by decide), c1 1 (by decide) (by decide), c1 2 (by decide) (by decide)⟩) (by omega) hsk.2 hN g1
  have k3 := l_sign_some (by decide) g2
  exact sLoop_ok hN 89 _ L1 q2 d2 (k1.1.up2 (Or.inl rfl)) (k2.1.num (Or.inl rfl)) (by omega) (by omega) (by omega) (by rw [q_up_eq, k2.2, c13]; decide) (by rw [q_up_eq, k2.2, c13]; decide) S' L' q d h
end INV2
