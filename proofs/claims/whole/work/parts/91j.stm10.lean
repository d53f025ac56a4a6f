/-! the class reads a text: all of it -/
section STM10
variable {D : q_D} {f f' S : q_F} {A : q_As} {g h : Int} {T : Int → Int} {N p e : Int}
theorem l_sign_ge {c q d : Int} {u : Int × Int} (hc : 0 ≤ c) (h : l_sign T N c q d = .inr u) : q + 1 ≤ u.1 ∧ u.1 ≤ N := by
  have := l_sign_some (q := u.1) (r := u.2) hc h
  omega
theorem sNum_ge {S S' : q_F} {j k lo hi q d : Int} (hp : p ≤ N) (hs : sNum S T N j k lo hi p e = .inr (S', q, d)) : p ≤ q ∧ q ≤ N := by
  unfold sNum at hs
  cases hl : l_num T N lo hi p e with
  | inl e0 => rw [hl] at hs; cases hs
  | inr u =>
    rw [hl] at hs
    unfold l_num at hl
    split at hl
    · next hg =>
      have hpN := lk_isG hg.1
      have h1 := de_rg (T := T) hp
      have h3 := sk_rg (T := T) (p := de T N p) h1.2.1
      split at hl
      · split at hl
        · cases hl; cases hs; show p ≤ sk T N (de T N p) ∧ sk T N (de T N p) ≤ N; omega
        · cases hl
      · cases hl
    · cases hl
theorem sFor_ge {j hi : Int} : ∀ (m : Nat) (S S' : q_F) (k p e q d : Int), p ≤ N → sFor T N j hi m S k p e = .inr (S', q, d) → p ≤ q ∧ q ≤ N := by
  intro m
  induction m with
  | zero => intro S S' k p e q d hp h; cases h; exact ⟨Int.le_refl _, hp⟩
  | succ m ih =>
    intro S S' k p e q d hp h
    have h : rb (sNum S T N j k 0 hi p e) (fun s => sFor T N j hi m s.1 (k + 1) s.2.1 s.2.2) = .inr (S', q, d) := h
    cases hn : sNum S T N j k 0 hi p e with
    | inl e0 => rw [hn] at h; cases h
    | inr s =>
      obtain ⟨S1, q1, d1⟩ := s
      rw [hn] at h
      have h1 := sNum_ge hp hn
      have h2 := ih S1 S' _ _ _ _ _ h1.2 h
      omega
theorem sNew_ge {k q d : Int} {S' : q_F} (hp : p ≤ N) (hs : sNew S T N k p e = .inr (S', q, d)) : p ≤ q ∧ q ≤ N := by
  unfold sNew at hs
  cases hl : l_name T N p e with
  | inl e0 => rw [hl] at hs; cases hs
  | inr u =>
    have := l_name_rg (l := u.1) (q := u.2.1) (d := u.2.2) hp hl
    rw [hl] at hs
    have hs : (if gvn S (pk32 u.1) then (.inl (3, p) : q_R (q_F × Int × Int)) else .inr (addN S k (pk32 u.1), u.2.1, u.2.2)) = .inr (S', q, d) := hs
    split at hs
    · cases hs
    · cases hs; omega
theorem sOld_ge {k v q d : Int} (hp : p ≤ N) (hs : sOld S T N k p e = .inr (v, q, d)) : p ≤ q ∧ q ≤ N := by
  unfold sOld at hs
  cases hl : l_name T N p e with
  | inl e0 => rw [hl] at hs; cases hs
  | inr u =>
    have := l_name_rg (l := u.1) (q := u.2.1) (d := u.2.2) hp hl
    rw [hl] at hs
    have hs : (if nmS S k (pk32 u.1) = -1 then (.inl (3, p) : q_R (Int × Int × Int)) else .inr (nmS S k (pk32 u.1), u.2.1, u.2.2)) = .inr (v, q, d) := hs
    split at hs
    · cases hs
    · cases hs; omega
theorem l_word_ge {i q d : Int} {u : Int × Int} (hi : 0 ≤ i) (hp : p ≤ N) (h : l_word T N i p e = .inr u) : p ≤ u.1 ∧ u.1 ≤ N := by
  unfold l_word at h
  split at h
  · next hw =>
    have := wd_ge (T := T) (N := N) (p := p) (e := e) hp (by omega)
    cases h; show p ≤ sk T N (le T N p) ∧ sk T N (le T N p) ≤ N; omega
  · cases h
theorem rb_inr {α β : Type} {x : q_R α} {k : α → q_R β} {b : β} (h : rb x k = .inr b) : ∃ a, x = .inr a ∧ k a = .inr b := by
  cases x with
  | inl e => cases h
  | inr a => exact ⟨a, rfl, h⟩
/-- what a step of a statement keeps -/
def sOk (N p : Int) (r : q_R (q_F × Int × Int)) : Prop := ∀ S' q d, r = .inr (S', q, d) → pW S' ∧ p ≤ q ∧ q ≤ N
theorem sPerson_ok (hW : pW S) (hr : S 1 1 < 8) (hp : p ≤ N) : sOk N p (sPerson S T N p e) := by
  intro S' q d h
  obtain ⟨⟨S1, q1, d1⟩, h1, h2⟩ := rb_inr h
  have a1 := sNew_W hW (k := 1) (by decide) hr hp h1
  have a2 := sNew_ge hp h1
  have h2 : sFor T N (15 + S 1 1) 9 (S1 1 0).toNat S1 0 q1 d1 = .inr (S', q, d) := h2
  have b := hW.2.1
  have a3 := sFor_ge _ _ _ _ _ _ _ _ a2.2 h2
  exact ⟨sFor_W (by omega) _ _ _ _ _ _ _ _ a1.1 h2, by omega, a3.2⟩
theorem sShade_ok (hW : pW S) (hr : S 1 2 < 5) (hp : p ≤ N) : sOk N p (sShade S T N p e) := by
  intro S' q d h
  have b := hW.2.2.1
  obtain ⟨⟨S1, q1, d1⟩, h1, h⟩ := rb_inr h
  have a1 := sNew_W hW (k := 2) (by decide) hr hp h1
  have a2 := sNew_ge hp h1
  obtain ⟨⟨q2, d2⟩, h2, h⟩ := rb_inr (show rb (l_word T N 3 q1 d1) (fun u => sShade3 T N (S 1 2) S1 u.1 u.2) = .inr (S', q, d) from h)
  have a3 := l_word_ge (q := 0) (d := 0) (by decide) a2.2 h2
  obtain ⟨⟨S3, q3, d3⟩, h3, h⟩ := rb_inr (show rb (sNum S1 T N 35 (S 1 2) 1 99 q2 d2) (fun s => sShade4 T N (S 1 2) s.1 s.2.1 s.2.2) = .inr (S', q, d) from h)
  have a4 := sNum_W a1.1 (by omega) h3
  have a5 := sNum_ge a3.2 h3
  obtain ⟨⟨S4, q4, d4⟩, h4, h⟩ := rb_inr (show rb (sFor T N (24 + S 1 2) 9 (S3 1 0).toNat S3 0 q3 d3) (fun s => sShade5 T N (S 1 2) s.1 s.2.1 s.2.2) = .inr (S', q, d) from h)
  have a6 := sFor_W (by omega) _ _ _ _ _ _ _ _ a4 h4
  have a7 := sFor_ge _ _ _ _ _ _ _ _ a5.2 h4
  obtain ⟨⟨q5, d5⟩, h5, h⟩ := rb_inr (show rb (l_word T N 4 q4 d4) (fun u => sShade6 T N (S 1 2) S4 u.1 u.2) = .inr (S', q, d) from h)
  have a8 := l_word_ge (q := 0) (d := 0) (by decide) a7.2 h5
  have h : sFor T N (30 + S 1 2) 1 (S4 1 0).toNat S4 0 q5 d5 = .inr (S', q, d) := h
  have a9 := sFor_ge _ _ _ _ _ _ _ _ a8.2 h
  refine ⟨sFor_W (by omega) _ _ _ _ _ _ _ _ a6 h, ?_, a9.2⟩
  simp only at a3 a8
  omega
theorem pW_addR (hW : pW S) {a b v : Int} (ha : 0 ≤ a ∧ a < 8) (hb : 0 ≤ b ∧ b < 8) (hv : 0 ≤ v) (h6 : S 1 6 < 20) : pW (addR S a b v) := by
  have hrg := hW.2.2.2.2.2.2.2.2 a b ha.1 ha.2 hb.1 hb.2
  have hm : 0 ≤ min v (S (37 + a) b) ∧ min v (S (37 + a) b) ≤ 1000 := by omega
  obtain ⟨a0, a1, a2, a3, a4, a5, a6, a7, a8⟩ := hW
  have e1 : ∀ i, ¬ i = 6 → addR S a b v 1 i = S 1 i := fun i hi => by
    unfold addR; rw [q_up_ne (Or.inr hi), q_up_at (by omega), q_up_at (by omega)]
  have e6 : addR S a b v 1 6 = S 1 6 + 1 := by unfold addR; rw [q_up_eq]
  unfold pW
  rw [e1 0 (by decide), e1 1 (by decide), e1 2 (by decide), e1 3 (by decide), e1 4 (by decide), e1 5 (by decide), e6]
  refine ⟨a0, a1, a2, a3, a4, a5, by omega, fun i w i0 i1 w0 w1 => ?_, fun c d c0 c1 d0 d1 => ?_⟩
  · rw [e1 i (by omega)] at w1
    unfold addR
    rw [q_up_at (by omega), q_up_at (by omega), q_up_at (by omega)]; exact a7 i w i0 i1 w0 w1
  · unfold addR
    rw [q_up_at (by omega)]
    by_cases e2 : 37 + c = 37 + b ∧ d = a
    · rw [e2.1, e2.2, q_up_eq]; exact hm
    · rw [q_up_ne (by omega)]
      by_cases e3 : 37 + c = 37 + a ∧ d = b
      · rw [e3.1, e3.2, q_up_eq]; exact hm
      · rw [q_up_ne (by omega)]; exact a8 c d c0 c1 d0 d1
theorem l_num_lo {lo hi v q d : Int} (h : l_num T N lo hi p e = .inr (v, q, d)) : lo ≤ v ∧ v ≤ hi := by
  unfold l_num at h
  split at h
  · split at h
    · split at h
      · next hv => cases h; exact hv
      · cases h
    · cases h
  · cases h
theorem sRoad_ok (hW : pW S) (hr : S 1 6 < 20) (hp : p ≤ N) : sOk N p (sRoad S T N p e) := by
  intro S' q d h
  have b := hW.2.2.2.1
  obtain ⟨⟨a, q1, d1⟩, h1, h⟩ := rb_inr h
  have c1 := sOld_rg hW (by decide) h1
  have c2 := sOld_ge hp h1
  obtain ⟨⟨a', q2, d2⟩, h2, h⟩ := rb_inr (show rb (sOld S T N 3 q1 d1) (fun u => if a = u.1 then .inl (3, q1) else sRoad3 S T N a u.1 u.2.1 u.2.2) = .inr (S', q, d) from h)
  have c3 := sOld_rg hW (by decide) h2
  have c4 := sOld_ge c2.2 h2
  have h : (if a = a' then .inl (3, q1) else sRoad3 S T N a a' q2 d2) = .inr (S', q, d) := h
  split at h
  · cases h
  · obtain ⟨⟨v, q3, d3⟩, h3, h⟩ := rb_inr h
    have c5 := sNum_ge (S := S) (j := 0) (k := 0) (lo := 1) (hi := 9) c4.2 (show sNum S T N 0 0 1 9 q2 d2 = .inr (q_up S 0 0 v, q3, d3) by unfold sNum; rw [h3]; rfl)
    have c6 := l_num_lo h3
    cases h
    exact ⟨pW_addR hW (by omega) (by omega) (by omega) hr, by show p ≤ q3; omega, c5.2⟩
theorem pW_cnt (hW : pW S) {x : Int} (hx : 0 ≤ x ∧ x ≤ 24) : pW (q_up S 1 4 x) := by
  obtain ⟨a0, a1, a2, a3, a4, a5, a6, a7, a8⟩ := hW
  have e1 : ∀ i, ¬ i = 4 → q_up S 1 4 x 1 i = S 1 i := fun i hi => q_up_ne (Or.inr hi)
  unfold pW
  rw [e1 0 (by decide), e1 1 (by decide), e1 2 (by decide), e1 3 (by decide), e1 5 (by decide), e1 6 (by decide), q_up_eq]
  refine ⟨a0, a1, a2, a3, hx, a5, a6, fun i w i0 i1 w0 w1 => ?_, fun c d c0 c1 d0 d1 => ?_⟩
  · rw [e1 i (by omega)] at w1
    rw [q_up_at (by omega)]; exact a7 i w i0 i1 w0 w1
  · rw [q_up_at (by omega)]; exact a8 c d c0 c1 d0 d1
theorem pW_cnt5 (hW : pW S) {x : Int} (hx : 0 ≤ x ∧ x ≤ 6) : pW (q_up S 1 5 x) := by
  obtain ⟨a0, a1, a2, a3, a4, a5, a6, a7, a8⟩ := hW
  have e1 : ∀ i, ¬ i = 5 → q_up S 1 5 x 1 i = S 1 i := fun i hi => q_up_ne (Or.inr hi)
  unfold pW
  rw [e1 0 (by decide), e1 1 (by decide), e1 2 (by decide), e1 3 (by decide), e1 4 (by decide), e1 6 (by decide), q_up_eq]
  refine ⟨a0, a1, a2, a3, a4, hx, a6, fun i w i0 i1 w0 w1 => ?_, fun c d c0 c1 d0 d1 => ?_⟩
  · rw [e1 i (by omega)] at w1
    rw [q_up_at (by omega)]; exact a7 i w i0 i1 w0 w1
  · rw [q_up_at (by omega)]; exact a8 c d c0 c1 d0 d1
theorem sSeen_ok (hW : pW S) (hr : S 1 4 < 24) (hp : p ≤ N) : sOk N p (sSeen S T N p e) := by
  intro S' q d h
  have b := hW.2.2.2.2.1
  obtain ⟨⟨a, q1, d1⟩, h1, h⟩ := rb_inr h
  have c2 := sOld_ge hp h1
  have hW1 : pW (q_up S (46 + S 1 4) 0 a) := hW.up2 (by omega)
  obtain ⟨⟨q2, d2⟩, h2, h⟩ := rb_inr (show rb (l_word T N 8 q1 d1) (fun u => sSeen3 T N (S 1 4) (q_up S (46 + S 1 4) 0 a) u.1 u.2) = .inr (S', q, d) from h)
  have c3 := l_word_ge (q := 0) (d := 0) (by decide) c2.2 h2
  obtain ⟨⟨v, q3, d3⟩, h3, h⟩ := rb_inr (show rb (sOld (q_up S (46 + S 1 4) 0 a) T N 3 q2 d2) (fun s => sSeen4 T N (S 1 4) (q_up (q_up S (46 + S 1 4) 0 a) (46 + S 1 4) 1 s.1) s.2.1 s.2.2) = .inr (S', q, d) from h)
  have c4 := sOld_ge c3.2 h3
  have hW2 : pW (q_up (q_up S (46 + S 1 4) 0 a) (46 + S 1 4) 1 v) := hW1.up2 (by omega)
  obtain ⟨⟨q4, d4⟩, h4, h⟩ := rb_inr (show rb (l_word T N 9 q3 d3) (fun u => sSeen5 T N (S 1 4) (q_up (q_up S (46 + S 1 4) 0 a) (46 + S 1 4) 1 v) u.1 u.2) = .inr (S', q, d) from h)
  have c5 := l_word_ge (q := 0) (d := 0) (by decide) c4.2 h4
  obtain ⟨⟨S5, q5, d5⟩, h5, h⟩ := rb_inr (show rb (sNum (q_up (q_up S (46 + S 1 4) 0 a) (46 + S 1 4) 1 v) T N (46 + S 1 4) 2 0 99 q4 d4) (fun s => sSeen6 T N (S 1 4) s.1 s.2.1 s.2.2) = .inr (S', q, d) from h)
  have hW5 := sNum_W hW2 (by omega) h5
  have c6 := sNum_ge c5.2 h5
  obtain ⟨⟨q6, d6⟩, h6, h⟩ := rb_inr (show rb (l_word T N 10 q5 d5) (fun u => sSeen7 T N (S 1 4) S5 u.1 u.2) = .inr (S', q, d) from h)
  have c7 := l_word_ge (q := 0) (d := 0) (by decide) c6.2 h6
  obtain ⟨⟨S7, q7, d7⟩, h7, h⟩ := rb_inr (show rb (sNum S5 T N (46 + S 1 4) 3 0 100 q6 d6) (fun s => sSeen8 T N (S 1 4) s.1 s.2.1 s.2.2) = .inr (S', q, d) from h)
  have hW7 := sNum_W hW5 (by omega) h7
  have c8 := sNum_ge c7.2 h7
  simp only at c3 c5 c7
  have h : sSeen8 T N (S 1 4) S7 q7 d7 = .inr (S', q, d) := h
  unfold sSeen8 at h
  split at h
  · next hw =>
    have := wd_ge (T := T) (N := N) (p := q7) (e := d7) c8.2 (by omega)
    cases h
    exact ⟨pW_cnt (hW7.up2 (by omega)) (by omega), by omega, by omega⟩
  · obtain ⟨⟨q9, d9⟩, h9, h⟩ := rb_inr h
    have c9 := l_word_ge (q := 0) (d := 0) (by decide) c8.2 h9
    simp only at c9
    cases h
    exact ⟨pW_cnt (hW7.up2 (by omega)) (by omega), by show p ≤ q9; omega, by show q9 ≤ N; omega⟩
theorem sTr_ok : ∀ (m : Nat) (t : Int) (S : q_F) (p e : Int), pW S → S 1 0 = t → t + m = 6 → 0 ≤ t → p ≤ N → sOk N p (sTr T N m t S p e) := by
  intro m
  induction m with
  | zero => intro t S p e hW ht hm t0 hp S' q d h; cases h; exact ⟨hW, Int.le_refl _, hp⟩
  | succ m ih =>
    intro t S p e hW ht hm t0 hp S' q d h
    obtain ⟨⟨S1, q1, d1⟩, h1, h⟩ := rb_inr (show rb (sTr1 T N t S p e) (fun s => if t < 5 ∧ lk T N s.2.1 = 44 then sTr T N m (t + 1) s.1 (sk T N (s.2.1 + 1)) s.2.2 else .inr s) = .inr (S', q, d) from h)
    obtain ⟨⟨S2, q2, d2⟩, h2, h3⟩ := rb_inr (show rb (sNew S T N 0 p e) (fun s => sTr2 T N t s.1 s.2.1 s.2.2) = .inr (S1, q1, d1) from h1)
    have a1 := sNew_W hW (k := 0) (by decide) (by rw [ht]; show t < 6; omega) hp h2
    have a2 := sNew_ge hp h2
    obtain ⟨⟨S3, q3, d3⟩, h4, h5⟩ := rb_inr (show rb (sNum S2 T N (8 + t) 0 0 100 q2 d2) (fun s => sTr3 T N t s.1 s.2.1 s.2.2) = .inr (S1, q1, d1) from h3)
    have a3 := sNum_W a1.1 (by omega) h4
    have a4 := sNum_ge a2.2 h4
    have a4b := sNum_1 (by omega) h4 0
    have h5 : sNum S3 T N (8 + t) 1 0 100 q3 d3 = .inr (S1, q1, d1) := h5
    have a5 := sNum_W a3 (by omega) h5
    have a6 := sNum_ge a4.2 h5
    have a6b := sNum_1 (by omega) h5 0
    have h : (if t < 5 ∧ lk T N q1 = 44 then sTr T N m (t + 1) S1 (sk T N (q1 + 1)) d1 else .inr (S1, q1, d1)) = .inr (S', q, d) := h
    split at h
    · next hl =>
      have hq := lk_of (by decide) hl.2
      have hsk := sk_ge (T := T) hq.1
      have := ih (t + 1) S1 _ d1 a5 (by rw [a6b, a4b, a1.2 0, if_pos rfl, ht]) (by omega) (by omega) hsk.2 S' q d h
      exact ⟨this.1, by omega, this.2.2⟩
    · cases h; exact ⟨a5, by omega, a6.2⟩
theorem sStm_ok (b : Bool) (hW : pW S) (hb : b = true → S 1 0 = 0) (h0 : 0 ≤ p) (hp : p ≤ N) (hN : N ≤ 1600) {L L' : List Int} (hL : (L.length : Int) ≤ p) {S' : q_F} {q d : Int} (h : sStm b S T N L p e = .inr (S', L', q, d)) : pW S' ∧ (L'.length : Int) ≤ q ∧ p ≤ q ∧ q ≤ N := by
  have lfo : ∀ (r : q_R (q_F × Int × Int)) (q0 : Int), p ≤ q0 → sOk N q0 r → lf L r = .inr (S', L', q, d) → pW S' ∧ (L'.length : Int) ≤ q ∧ p ≤ q ∧ q ≤ N := by
    intro r q0 hq0 hr hl
    cases r with
    | inl e => cases hl
    | inr s =>
      cases hl
      have := hr s.1 s.2.1 s.2.2 rfl
      exact ⟨this.1, by omega, by omega, this.2.2⟩
  have bg : ∀ (k : Int) (X : Int → Int → q_PR), ¬ wd T N p e = -1 → (S 1 k < mst k → X (sk T N (le T N p)) (le T N p) = .inr (S', L', q, d) → pW S' ∧ (L'.length : Int) ≤ q ∧ p ≤ q ∧ q ≤ N) → bgn S T N k p X = .inr (S', L', q, d) → pW S' ∧ (L'.length : Int) ≤ q ∧ p ≤ q ∧ q ≤ N := by
    intro k X _ hX hl
    unfold bgn at hl
    split at hl
    · next hk => exact hX hk hl
    · cases hl
  have ge : ¬ wd T N p e = -1 → p ≤ sk T N (le T N p) ∧ sk T N (le T N p) ≤ N ∧ p + 1 ≤ sk T N (le T N p) := fun hne => by
    have := wd_ge (T := T) hp hne; omega
  unfold sStm at h
  cases b with
  | true =>
    rw [if_pos rfl] at h
    split at h
    · next hw =>
      have g := ge (by omega)
      exact lfo _ _ g.1 (sTr_ok 6 0 S _ _ hW (hb rfl) (by decide) (by decide) g.2.1) h
    · cases h
  | false =>
    rw [if_neg (by decide)] at h
    split at h
    · next hw => have g := ge (by omega); exact bg 1 _ (by omega) (fun hr => lfo _ _ g.1 (sPerson_ok hW hr g.2.1)) h
    · split at h
      · next hw => have g := ge (by omega); exact bg 2 _ (by omega) (fun hr => lfo _ _ g.1 (sShade_ok hW hr g.2.1)) h
      · split at h
        · next hw => have g := ge (by omega); exact bg 3 _ (by omega) (fun hr => lfo _ _ g.1 (fun S' q d hs => ⟨(sNew_W hW (by decide) hr g.2.1 hs).1, sNew_ge g.2.1 hs⟩)) h
        · split at h
          · next hw => have g := ge (by omega); exact bg 6 _ (by omega) (fun hr => lfo _ _ g.1 (sRoad_ok hW hr g.2.1)) h
          · split at h
            · next hw => have g := ge (by omega); exact bg 4 _ (by omega) (fun hr => lfo _ _ g.1 (sSeen_ok hW hr g.2.1)) h
            · split at h
              · next hw =>
                have g := ge (by omega)
                refine bg 5 _ (by omega) (fun hr hs => ?_) h
                have hr : S 1 5 < 6 := hr
                have h5 := hW.2.2.2.2.2.1
                obtain ⟨⟨c1, q1, d1⟩, h1, hs⟩ := rb_inr hs
                have l1 := rd_len 20000 3 0 _ _ c1 q1 d1 g.2.1 (by rw [rq_ok hN (by decide) (by omega) g.2.1, h1])
                obtain ⟨⟨q2, d2⟩, h2, hs⟩ := rb_inr (show rb (l_word T N 14 q1 d1) (fun u => sRu3 T N (q_up S 106 (S 1 5) L.length) (L ++ c1) u.1 u.2) = .inr (S', L', q, d) from hs)
                have l2 := l_word_ge (q := 0) (d := 0) (by decide) l1.2.1 h2
                simp only at l2
                obtain ⟨⟨c3, q3, d3⟩, h3, hs⟩ := rb_inr (show rb (rq T N 8 q2 d2) (fun s => sRu4 (q_up (q_up S 106 (S 1 5) L.length) 107 (q_up S 106 (S 1 5) L.length 1 5) (L ++ c1).length) ((L ++ c1) ++ s.1) s.2.1 s.2.2) = .inr (S', L', q, d) from hs)
                have l3 := rd_len 20000 8 0 _ _ c3 q3 d3 l2.2 (by rw [rq_ok hN (by decide) (by omega) l2.2, h3])
                cases hs
                refine ⟨?_, ?_, by show p ≤ q3; omega, by show q3 ≤ N; omega⟩
                · refine pW_cnt5 ?_ ?_
                  · exact ((hW.up2 (by omega)).up2 (by omega)).up2 (by omega)
                  · rw [q_up_at (by decide), q_up_at (by decide)]; omega
                · rw [List.length_append, List.length_append]; push_cast; omega
              · split at h
                · next hw => have g := ge (by omega); exact lfo _ _ g.1 (fun S' q d hs => ⟨sNum_W hW (Or.inl rfl) hs, sNum_ge g.2.1 hs⟩) h
                · cases h
end STM10
