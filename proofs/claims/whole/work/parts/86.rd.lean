/-! THE RULES' TEXT: sums and tests, read down; what is read is told as codes, operands first.
modes: 0 part, 1 product, 2 its rest, 3 sum, 4 its rest, 5 fact, 6 both, 7 its rest, 8 test, 9 its rest -/
abbrev q_O : Type := Option (q_R (List Int × Int × Int))
def ob (x : q_O) (k : List Int → Int → Int → q_O) : q_O := match x with
  | none => none
  | some (.inl e) => some (.inl e)
  | some (.inr s) => k s.1 s.2.1 s.2.2
def os (x : q_R (Int × Int)) (k : Int → Int → q_O) : q_O := match x with
  | .inl e => some (.inl e)
  | .inr s => k s.1 s.2
/-- the value that a word asks for -/
def wcd (w : Int) : Int := if w = 3 then 7 else if w = 9 then 8 else if w = 10 then 9 else if w = 20 then 10 else if w = 21 then 18 else 19
abbrev isV (w : Int) : Prop := w = 3 ∨ w = 9 ∨ w = 10 ∨ w = 20 ∨ w = 21 ∨ w = 22
def rdNum (T : Int → Int) (N p e : Int) : q_O := match l_num T N 0 9999 p e with
  | .inl e => some (.inl e)
  | .inr s => some (.inr ([1000 + s.1], s.2.1, s.2.2))
def rd (T : Int → Int) (N : Int) : Nat → Nat → Int → Int → Int → q_O
  | 0, _, _, _, _ => none
  | n + 1, mode, o, p, e => match mode with
    | 0 => if isG (lk T N p) = true then rdNum T N p e
      else if lk T N p = 40 then (if o < 6 then ob (rd T N n 3 (o + 1) (sk T N (p + 1)) e) (fun c q r => os (l_sign T N 41 q r) (fun q r => some (.inr (c, q, r)))) else some (.inl (4, p)))
      else if isV (wd T N p e) then some (.inr ([wcd (wd T N p e)], sk T N (le T N p), le T N p))
      else if wd T N p e = 23 ∨ wd T N p e = 24 then (if lk T N (sk T N (le T N p)) = 40 then (if o < 6 then ob (rd T N n 3 (o + 1) (sk T N (sk T N (le T N p) + 1)) (le T N p)) (fun c q r => os (l_sign T N 44 q r) (fun q r => ob (rd T N n 3 (o + 1) q r) (fun c2 q r => os (l_sign T N 41 q r) (fun q r => some (.inr (c ++ (c2 ++ [if wd T N p e = 23 then 5 else 6]), q, r)))))) else some (.inl (4, sk T N (le T N p)))) else some (.inl (1, sk T N (le T N p))))
      else some (.inl (1, p))
    | 1 => ob (rd T N n 0 o p e) (fun c q r => ob (rd T N n 2 o q r) (fun c2 q r => some (.inr (c ++ c2, q, r))))
    | 2 => if lk T N p = 42 ∨ lk T N p = 47 then ob (rd T N n 0 o (sk T N (p + 1)) e) (fun c q r => ob (rd T N n 2 o q r) (fun c2 q r => some (.inr (c ++ ((if lk T N p = 42 then 3 else 4) :: c2), q, r)))) else some (.inr ([], p, e))
    | 3 => ob (rd T N n 1 o p e) (fun c q r => ob (rd T N n 4 o q r) (fun c2 q r => some (.inr (c ++ c2, q, r))))
    | 4 => if lk T N p = 43 ∨ lk T N p = 45 then ob (rd T N n 1 o (sk T N (p + 1)) e) (fun c q r => ob (rd T N n 4 o q r) (fun c2 q r => some (.inr (c ++ ((if lk T N p = 43 then 1 else 2) :: c2), q, r)))) else some (.inr ([], p, e))
    | 5 => if wd T N p e = 18 then (if o < 6 then ob (rd T N n 5 (o + 1) (sk T N (le T N p)) (le T N p)) (fun c q r => some (.inr (c ++ [16], q, r))) else some (.inl (4, p)))
      else if wd T N p e = 19 then some (.inr ([17], sk T N (le T N p), le T N p))
      else if lk T N p = 91 then (if o < 6 then ob (rd T N n 8 (o + 1) (sk T N (p + 1)) e) (fun c q r => os (l_sign T N 93 q r) (fun q r => some (.inr (c, q, r)))) else some (.inl (4, p)))
      else ob (rd T N n 3 o p e) (fun c q r => if lk T N q = 60 ∨ lk T N q = 62 ∨ lk T N q = 61 then ob (rd T N n 3 o (sk T N (q + 1)) r) (fun c2 q2 r2 => some (.inr (c ++ (c2 ++ [if lk T N q = 60 then 11 else if lk T N q = 62 then 12 else 13]), q2, r2))) else some (.inl (1, q)))
    | 6 => ob (rd T N n 5 o p e) (fun c q r => ob (rd T N n 7 o q r) (fun c2 q r => some (.inr (c ++ c2, q, r))))
    | 7 => if wd T N p e = 17 then ob (rd T N n 5 o (sk T N (le T N p)) (le T N p)) (fun c q r => ob (rd T N n 7 o q r) (fun c2 q r => some (.inr (c ++ (14 :: c2), q, r)))) else some (.inr ([], p, e))
    | 8 => ob (rd T N n 6 o p e) (fun c q r => ob (rd T N n 9 o q r) (fun c2 q r => some (.inr (c ++ c2, q, r))))
    | 9 => if wd T N p e = 16 then ob (rd T N n 6 o (sk T N (le T N p)) (le T N p)) (fun c q r => ob (rd T N n 9 o q r) (fun c2 q r => some (.inr (c ++ (15 :: c2), q, r)))) else some (.inr ([], p, e))
    | _ => none
section RD
variable {T : Int → Int} {N : Int}
theorem ob_some {x : q_O} {k : List Int → Int → Int → q_O} {s : List Int × Int × Int} (h : ob x k = some (.inr s)) : ∃ c q r, x = some (.inr (c, q, r)) ∧ k c q r = some (.inr s) := by
  unfold ob at h
  match x, h with
  | none, h => cases h
  | some (.inl e), h => cases h
  | some (.inr (c, q, r)), h => exact ⟨c, q, r, rfl, h⟩
theorem os_some {x : q_R (Int × Int)} {k : Int → Int → q_O} {s : List Int × Int × Int} (h : os x k = some (.inr s)) : ∃ q r, x = .inr (q, r) ∧ k q r = some (.inr s) := by
  unfold os at h
  match x, h with
  | .inl e, h => cases h
  | .inr (q, r), h => exact ⟨q, r, rfl, h⟩
theorem l_sign_some {c p e q r : Int} (hc : 0 ≤ c) (h : l_sign T N c p e = .inr (q, r)) : p < N ∧ lk T N p = c ∧ q = sk T N (p + 1) ∧ r = e ∧ p + 1 ≤ q ∧ q ≤ N := by
  unfold l_sign at h
  split at h
  · next hl =>
    have := lk_of hc hl
    have h2 := sk_rg (T := T) (N := N) (p := p + 1) (by omega)
    cases h
    exact ⟨this.1, hl, rfl, rfl, h2.1, h2.2⟩
  · cases h
theorem sk_ge {p : Int} (hp : p < N) : p + 1 ≤ sk T N (p + 1) ∧ sk T N (p + 1) ≤ N := sk_rg (by omega)
theorem wd_ge {p e : Int} (hp : p ≤ N) (h : ¬ wd T N p e = -1) : p + 1 ≤ sk T N (le T N p) ∧ sk T N (le T N p) ≤ N ∧ p < N := by
  have h1 := wd_lt hp h
  have h2 := le_rg (T := T) hp
  have h3 := sk_rg (T := T) (p := le T N p) h2.2.1
  omega
/-- each code told has its byte; parts, products .. tell one at least -/
theorem rd_len : ∀ (n mode : Nat) (o p e : Int) (c : List Int) (q r : Int), p ≤ N → rd T N n mode o p e = some (.inr (c, q, r)) → p + c.length ≤ q ∧ q ≤ N ∧ (mode = 0 ∨ mode = 1 ∨ mode = 3 ∨ mode = 5 ∨ mode = 6 ∨ mode = 8 → 1 ≤ c.length) := by
  intro n
  induction n with
  | zero => intro mode o p e c q r _ h; unfold rd at h; cases h
  | succ n ih =>
    intro mode o p e c q r hp h
    unfold rd at h
    split at h
    · split at h
      · next hg =>
        unfold rdNum at h
        have hpN := lk_isG hg
        unfold l_num at h
        split at h
        · cases h
        · next hh =>
          have h1 := de_rg (T := T) hp
          have h2 := de_lt hpN.1 hpN.2
          have h3 := sk_rg (T := T) (p := de T N p) h1.2.1
          split at hh
          · split at hh
            · split at hh
              · cases hh; cases h; simp; omega
              · cases hh
            · cases hh
          · cases hh
      · split at h
        · next hl =>
          split at h
          · obtain ⟨c1, q1, r1, h1, h2⟩ := ob_some h
            obtain ⟨q2, r2, h3, h4⟩ := os_some h2
            have hpN := lk_of (by decide) hl
            have g1 := sk_ge (T := T) hpN.1
            have g2 := ih 3 _ _ _ _ _ _ g1.2 h1
            have g3 := l_sign_some (by decide) h3
            cases h4
            refine ⟨by omega, by omega, fun _ => g2.2.2 (by decide)⟩
          · cases h
        · split at h
          · next hv =>
            have := wd_ge (T := T) hp (e := e) (by unfold isV at hv; omega)
            cases h; simp; omega
          · split at h
            · next hw =>
              split at h
              · next hl =>
                split at h
                · have g0 := wd_ge (T := T) hp (e := e) (by omega)
                  have hpN := lk_of (by decide) hl
                  have g1 := sk_ge (T := T) hpN.1
                  obtain ⟨c1, q1, r1, h1, h2⟩ := ob_some h
                  obtain ⟨q2, r2, h3, h4⟩ := os_some h2
                  obtain ⟨c3, q3, r3, h5, h6⟩ := ob_some h4
                  obtain ⟨q4, r4, h7, h8⟩ := os_some h6
                  have g2 := ih 3 _ _ _ _ _ _ g1.2 h1
                  have g3 := l_sign_some (by decide) h3
                  have g4 := ih 3 _ _ _ _ _ _ g3.2.2.2.2.2 h5
                  have g5 := l_sign_some (by decide) h7
                  cases h8
                  simp only [List.length_append, List.length_cons, List.length_nil]
                  push_cast
                  refine ⟨by omega, by omega, fun _ => by omega⟩
                · cases h
              · cases h
            · cases h
    all_goals first
      | (obtain ⟨c1, q1, r1, h1, h2⟩ := ob_some h
         obtain ⟨c2, q2, r2, h3, h4⟩ := ob_some h2
         have g1 := ih _ _ _ _ _ _ _ hp h1
         have g2 := ih _ _ _ _ _ _ _ g1.2.1 h3
         have g3 := g1.2.2 (by decide)
         cases h4
         rw [List.length_append]; push_cast
         exact ⟨by omega, by omega, fun _ => by omega⟩)
      | skip
    · split at h
      · next hl =>
        have hpN : p < N := by rcases hl with hl | hl <;> exact (lk_of (by decide) hl).1
        have g0 := sk_ge (T := T) hpN
        obtain ⟨c1, q1, r1, h1, h2⟩ := ob_some h
        obtain ⟨c2, q2, r2, h3, h4⟩ := ob_some h2
        have g1 := ih _ _ _ _ _ _ _ g0.2 h1
        have g2 := ih _ _ _ _ _ _ _ g1.2.1 h3
        cases h4
        rw [List.length_append, List.length_cons]; push_cast
        exact ⟨by omega, by omega, fun hm => by omega⟩
      · cases h; simp; omega
    · split at h
      · next hl =>
        have hpN : p < N := by rcases hl with hl | hl <;> exact (lk_of (by decide) hl).1
        have g0 := sk_ge (T := T) hpN
        obtain ⟨c1, q1, r1, h1, h2⟩ := ob_some h
        obtain ⟨c2, q2, r2, h3, h4⟩ := ob_some h2
        have g1 := ih _ _ _ _ _ _ _ g0.2 h1
        have g2 := ih _ _ _ _ _ _ _ g1.2.1 h3
        cases h4
        rw [List.length_append, List.length_cons]; push_cast
        exact ⟨by omega, by omega, fun hm => by omega⟩
      · cases h; simp; omega
    · split at h
      · next hw =>
        have g0 := wd_ge (T := T) hp (e := e) (by omega)
        split at h
        · obtain ⟨c1, q1, r1, h1, h2⟩ := ob_some h
          have g1 := ih _ _ _ _ _ _ _ g0.2.1 h1
          cases h2
          rw [List.length_append]; simp only [List.length_cons, List.length_nil]; push_cast
          exact ⟨by omega, by omega, fun _ => by first | omega | (simp; done) | (simp; omega)⟩
        · cases h
      · split at h
        · next hw =>
          have g0 := wd_ge (T := T) hp (e := e) (by omega)
          cases h; simp; omega
        · split at h
          · next hl =>
            split at h
            · obtain ⟨c1, q1, r1, h1, h2⟩ := ob_some h
              obtain ⟨q2, r2, h3, h4⟩ := os_some h2
              have hpN := lk_of (by decide) hl
              have g1 := sk_ge (T := T) hpN.1
              have g2 := ih 8 _ _ _ _ _ _ g1.2 h1
              have g3 := l_sign_some (by decide) h3
              cases h4
              exact ⟨by omega, by omega, fun _ => g2.2.2 (by decide)⟩
            · cases h
          · obtain ⟨c1, q1, r1, h1, h2⟩ := ob_some h
            have g1 := ih _ _ _ _ _ _ _ hp h1
            split at h2
            · next hl =>
              have hqN : q1 < N := by rcases hl with hl | hl | hl <;> exact (lk_of (by decide) hl).1
              have g0 := sk_ge (T := T) hqN
              obtain ⟨c2, q2, r2, h3, h4⟩ := ob_some h2
              have g2 := ih _ _ _ _ _ _ _ g0.2 h3
              cases h4
              simp only [List.length_append, List.length_cons, List.length_nil]; push_cast
              exact ⟨by omega, by omega, fun _ => by omega⟩
            · cases h2
    · split at h
      · next hw =>
        have g0 := wd_ge (T := T) hp (e := e) (by omega)
        obtain ⟨c1, q1, r1, h1, h2⟩ := ob_some h
        obtain ⟨c2, q2, r2, h3, h4⟩ := ob_some h2
        have g1 := ih _ _ _ _ _ _ _ g0.2.1 h1
        have g2 := ih _ _ _ _ _ _ _ g1.2.1 h3
        cases h4
        rw [List.length_append, List.length_cons]; push_cast
        exact ⟨by omega, by omega, fun hm => by omega⟩
      · cases h; simp; omega
    · split at h
      · next hw =>
        have g0 := wd_ge (T := T) hp (e := e) (by omega)
        obtain ⟨c1, q1, r1, h1, h2⟩ := ob_some h
        obtain ⟨c2, q2, r2, h3, h4⟩ := ob_some h2
        have g1 := ih _ _ _ _ _ _ _ g0.2.1 h1
        have g2 := ih _ _ _ _ _ _ _ g1.2.1 h3
        cases h4
        rw [List.length_append, List.length_cons]; push_cast
        exact ⟨by omega, by omega, fun hm => by omega⟩
      · cases h; simp; omega
    · cases h
end RD
