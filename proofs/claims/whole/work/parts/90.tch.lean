/-! rd with more steps; the reference's way to read tests -/
section MONO
variable {T : Int → Int} {N : Int}
theorem ob_mono {x x' : q_O} {k k' : List Int → Int → Int → q_O} {r : q_R (List Int × Int × Int)} (hx : ∀ r', x = some r' → x' = some r') (hk : ∀ c q d r', k c q d = some r' → k' c q d = some r') (h : ob x k = some r) : ob x' k' = some r := by
  rcases ob_cases h with ⟨e, h1, h2⟩ | ⟨c, q, d, h1, h2⟩
  · rw [hx _ h1, h2]; rfl
  · rw [hx _ h1]; exact hk _ _ _ _ h2
theorem os_mono {x : q_R (Int × Int)} {k k' : Int → Int → q_O} {r : q_R (List Int × Int × Int)} (hk : ∀ q d r', k q d = some r' → k' q d = some r') (h : os x k = some r) : os x k' = some r := by
  rcases os_cases h with ⟨e, h1, h2⟩ | ⟨q, d, h1, h2⟩
  · rw [h1, h2]; rfl
  · rw [h1]; exact hk _ _ _ h2
theorem ite_mono {c : Prop} [Decidable c] {a a' b b' : q_O} {r : q_R (List Int × Int × Int)} (h1 : c → a = some r → a' = some r) (h2 : ¬ c → b = some r → b' = some r) (h : (if c then a else b) = some r) : (if c then a' else b') = some r := by
  split
  · next hc => rw [if_pos hc] at h; exact h1 hc h
  · next hc => rw [if_neg hc] at h; exact h2 hc h
theorem rd_mono1 : ∀ (n mode : Nat) (o p e : Int) (r : q_R (List Int × Int × Int)), rd T N n mode o p e = some r → rd T N (n + 1) mode o p e = some r := by
  intro n
  induction n with
  | zero => intro mode o p e r h; cases h
  | succ n ih =>
    intro mode o p e r h
    have two : ∀ (m1 m2 : Nat) (o p e : Int) (g : List Int → List Int → List Int), ob (rd T N n m1 o p e) (fun c q r => ob (rd T N n m2 o q r) (fun c2 q r => some (.inr (g c c2, q, r)))) = some r → ob (rd T N (n + 1) m1 o p e) (fun c q r => ob (rd T N (n + 1) m2 o q r) (fun c2 q r => some (.inr (g c c2, q, r)))) = some r := fun m1 m2 o p e g h => ob_mono (ih _ _ _ _) (fun c q d r' h => ob_mono (ih _ _ _ _) (fun _ _ _ _ h => h) h) h
    match mode, h with
    | 0, h =>
      rw [rd_0] at h ⊢
      unfold rdPart at h ⊢
      exact ite_mono (fun _ h => h) (fun _ => ite_mono (fun _ => ite_mono (fun _ => ob_mono (ih _ _ _ _) (fun _ _ _ _ h => h)) (fun _ h => h)) (fun _ => ite_mono (fun _ h => h) (fun _ => ite_mono (fun _ => ite_mono (fun _ => ite_mono (fun _ => ob_mono (ih _ _ _ _) (fun c q d r' => os_mono (fun q d r' => ob_mono (ih _ _ _ _) (fun _ _ _ _ h => h)))) (fun _ h => h)) (fun _ h => h)) (fun _ h => h)))) h
    | 1, h => exact two 0 2 o p e (fun c c2 => c ++ c2) h
    | 2, h => exact ite_mono (a' := ob (rd T N (n + 1) 0 o (sk T N (p + 1)) e) (fun c q r => ob (rd T N (n + 1) 2 o q r) (fun c2 q r => some (.inr (c ++ ((if lk T N p = 42 then 3 else 4) :: c2), q, r))))) (b' := some (.inr ([], p, e))) (fun _ h => two 0 2 o _ e (fun c c2 => c ++ ((if lk T N p = 42 then 3 else 4) :: c2)) h) (fun _ h => h) h
    | 3, h => exact two 1 4 o p e (fun c c2 => c ++ c2) h
    | 4, h => exact ite_mono (a' := ob (rd T N (n + 1) 1 o (sk T N (p + 1)) e) (fun c q r => ob (rd T N (n + 1) 4 o q r) (fun c2 q r => some (.inr (c ++ ((if lk T N p = 43 then 1 else 2) :: c2), q, r))))) (b' := some (.inr ([], p, e))) (fun _ h => two 1 4 o _ e (fun c c2 => c ++ ((if lk T N p = 43 then 1 else 2) :: c2)) h) (fun _ h => h) h
    | 5, h =>
      rw [rd_5] at h ⊢
      unfold rdFact at h ⊢
      exact ite_mono (fun _ => ite_mono (fun _ => ob_mono (ih _ _ _ _) (fun _ _ _ _ h => h)) (fun _ h => h)) (fun _ => ite_mono (fun _ h => h) (fun _ => ite_mono (fun _ => ite_mono (fun _ => ob_mono (ih _ _ _ _) (fun _ _ _ _ h => h)) (fun _ h => h)) (fun _ => ob_mono (ih _ _ _ _) (fun c q d r' => ite_mono (fun _ => ob_mono (ih _ _ _ _) (fun _ _ _ _ h => h)) (fun _ h => h))))) h
    | 6, h => exact two 5 7 o p e (fun c c2 => c ++ c2) h
    | 7, h => exact ite_mono (a' := ob (rd T N (n + 1) 5 o (sk T N (le T N p)) (le T N p)) (fun c q r => ob (rd T N (n + 1) 7 o q r) (fun c2 q r => some (.inr (c ++ (14 :: c2), q, r))))) (b' := some (.inr ([], p, e))) (fun _ h => two 5 7 o _ _ (fun c c2 => c ++ (14 :: c2)) h) (fun _ h => h) h
    | 8, h => exact two 6 9 o p e (fun c c2 => c ++ c2) h
    | 9, h => exact ite_mono (a' := ob (rd T N (n + 1) 6 o (sk T N (le T N p)) (le T N p)) (fun c q r => ob (rd T N (n + 1) 9 o q r) (fun c2 q r => some (.inr (c ++ (15 :: c2), q, r))))) (b' := some (.inr ([], p, e))) (fun _ h => two 6 9 o _ _ (fun c c2 => c ++ (15 :: c2)) h) (fun _ h => h) h
    | k + 10, h => cases h
theorem rd_mono {n m mode : Nat} {o p e : Int} {r : q_R (List Int × Int × Int)} (hnm : n ≤ m) (h : rd T N n mode o p e = some r) : rd T N m mode o p e = some r := by
  obtain ⟨k, rfl⟩ := Nat.le.dest hnm
  induction k with
  | zero => exact h
  | succ k ih => exact rd_mono1 _ _ _ _ _ _ (ih (by omega))
end MONO
def isN (x : Int) : Bool := decide (x = 16)
def isA (x : Int) : Bool := decide (x = 14)
def isO (x : Int) : Bool := decide (x = 14 ∨ x = 15)
def noQ (x : Int) : Bool := decide (¬ x = 25)
/-- a comparison, or all -/
def fct (T : Int → Int) (N : Int) (F : Nat) (o p e : Int) : q_O := if wd T N p e = 19 then some (.inr ([17], sk T N (le T N p), le T N p)) else ob (rd T N F 3 o p e) (fun c q r => if lk T N q = 60 ∨ lk T N q = 62 ∨ lk T N q = 61 then ob (rd T N F 3 o (sk T N (q + 1)) r) (fun c2 q2 r2 => some (.inr (c ++ (c2 ++ [if lk T N q = 60 then 11 else if lk T N q = 62 then 12 else 13]), q2, r2))) else some (.inl (1, q)))
def tch (T : Int → Int) (N : Int) (F : Nat) : Nat → Bool → List Int → List Int → Int → Int → Int → q_O
  | 0, _, _, _, _, _, _ => none
  | n + 1, true, K, L, o, p, e =>
    if lk T N p = 91 then (if o < 6 then tch T N F n true (25 :: K) L (o + 1) (sk T N (p + 1)) e else some (.inl (4, p)))
    else if wd T N p e = 18 then (if o < 6 then tch T N F n true (16 :: K) L (o + 1) (sk T N (le T N p)) (le T N p) else some (.inl (4, p)))
    else ob (fct T N F o p e) (fun c q d => tch T N F n false K (L ++ c) o q d)
  | n + 1, false, 16 :: K, L, o, p, e => tch T N F n false K (L ++ [16]) (o - 1) p e
  | n + 1, false, K, L, o, p, e =>
    if lk T N p = 93 ∧ 25 ∈ K then tch T N F n false ((K.dropWhile noQ).drop 1) (L ++ K.takeWhile noQ) (o - 1) (sk T N (p + 1)) e
    else if wd T N p e = 17 then tch T N F n true (14 :: K.dropWhile isA) (L ++ K.takeWhile isA) o (sk T N (le T N p)) (le T N p)
    else if wd T N p e = 16 then tch T N F n true (15 :: K.dropWhile isO) (L ++ K.takeWhile isO) o (sk T N (le T N p)) (le T N p)
    else if 25 ∈ K then some (.inl (1, p)) else some (.inr (L ++ K, p, e))
def tto (T : Int → Int) (N : Int) (F : Nat) (b : Bool) (K L : List Int) (o p e : Int) (X : q_R (List Int × Int × Int)) : Prop := ∃ n, tch T N F n b K L o p e = some X
def tOk (T : Int → Int) (N : Int) (F : Nat) (b : Bool) (K L : List Int) (o p e : Int) (pd : List Int) (r : q_R (List Int × Int × Int)) : Prop := match r with
  | .inl e0 => tto T N F b (pd ++ K) L o p e (.inl e0)
  | .inr s => ∀ X, tto T N F false K (L ++ pd ++ s.1) o s.2.1 s.2.2 X → tto T N F b (pd ++ K) L o p e X
section TCH
variable {T : Int → Int} {N : Int} {F : Nat}
/-- behind a fact, where no not waits -/
theorem tch_B {n : Nat} {K L : List Int} {o p e : Int} (hK : topN isN K) : tch T N F (n + 1) false K L o p e = (if lk T N p = 93 ∧ 25 ∈ K then tch T N F n false ((K.dropWhile noQ).drop 1) (L ++ K.takeWhile noQ) (o - 1) (sk T N (p + 1)) e
    else if wd T N p e = 17 then tch T N F n true (14 :: K.dropWhile isA) (L ++ K.takeWhile isA) o (sk T N (le T N p)) (le T N p)
    else if wd T N p e = 16 then tch T N F n true (15 :: K.dropWhile isO) (L ++ K.takeWhile isO) o (sk T N (le T N p)) (le T N p)
    else if 25 ∈ K then some (.inl (1, p)) else some (.inr (L ++ K, p, e))) := by
  match K, hK with
  | [], _ => rfl
  | x :: K, hK =>
    by_cases hx : x = 16
    · subst hx; have := hK 16 K rfl; cases this
    · rw [tch]
      intro K' h
      cases h; exact hx rfl
theorem tch_N {n : Nat} {K L : List Int} {o p e : Int} : tch T N F (n + 1) false (16 :: K) L o p e = tch T N F n false K (L ++ [16]) (o - 1) p e := by rw [tch]
/-- what waits with and, told at once -/
theorem tch_and {n : Nat} {K L : List Int} {o p e : Int} (hK : topN isN K) (hp : ¬ wd T N p e = 17) : tch T N F n false (14 :: K) L o p e = tch T N F n false K (L ++ [14]) o p e := by
  cases n with
  | zero => rfl
  | succ n =>
    rw [tch_B (show topN isN (14 :: K) from fun x K' h => by cases h; rfl), tch_B hK, if_neg (c := wd T N p e = 17) hp, if_neg (c := wd T N p e = 17) hp]
    have h1 : (25 ∈ (14 :: K)) = (25 ∈ K) := by simp
    simp [List.takeWhile_cons, List.dropWhile_cons, noQ, isO]
theorem tch_or {n : Nat} {K L : List Int} {o p e : Int} (hK : topN isN K) (hp : ¬ wd T N p e = 17) (hp2 : ¬ wd T N p e = 16) : tch T N F n false (15 :: K) L o p e = tch T N F n false K (L ++ [15]) o p e := by
  cases n with
  | zero => rfl
  | succ n =>
    rw [tch_B (show topN isN (15 :: K) from fun x K' h => by cases h; rfl), tch_B hK, if_neg (c := wd T N p e = 17) hp, if_neg (c := wd T N p e = 17) hp, if_neg (c := wd T N p e = 16) hp2, if_neg (c := wd T N p e = 16) hp2]
    simp [List.takeWhile_cons, List.dropWhile_cons, noQ]
theorem rd_no17 : ∀ (n : Nat) (o p e : Int) (c : List Int) (q r : Int), rd T N n 7 o p e = some (.inr (c, q, r)) → ¬ wd T N q r = 17 := by
  intro n
  induction n with
  | zero => intro o p e c q r h; cases h
  | succ n ih =>
    intro o p e c q r h
    unfold rd at h
    simp only at h
    split at h
    · obtain ⟨c1, q1, r1, h1, h2⟩ := ob_some h
      obtain ⟨c2, q2, r2, h3, h4⟩ := ob_some h2
      cases h4
      exact ih _ _ _ _ _ _ h3
    · next hl => cases h; exact hl
theorem rd_no17b {n : Nat} {o p e : Int} {c : List Int} {q r : Int} (h : rd T N n 6 o p e = some (.inr (c, q, r))) : ¬ wd T N q r = 17 := by
  cases n with
  | zero => cases h
  | succ n =>
    unfold rd at h
    simp only at h
    obtain ⟨c1, q1, r1, h1, h2⟩ := ob_some h
    obtain ⟨c2, q2, r2, h3, h4⟩ := ob_some h2
    cases h4
    exact rd_no17 _ _ _ _ _ _ _ h3
theorem rd_no16 : ∀ (n : Nat) (o p e : Int) (c : List Int) (q r : Int), ¬ wd T N p e = 17 → rd T N n 9 o p e = some (.inr (c, q, r)) → ¬ wd T N q r = 17 ∧ ¬ wd T N q r = 16 := by
  intro n
  induction n with
  | zero => intro o p e c q r _ h; cases h
  | succ n ih =>
    intro o p e c q r hm h
    unfold rd at h
    simp only at h
    split at h
    · obtain ⟨c1, q1, r1, h1, h2⟩ := ob_some h
      obtain ⟨c2, q2, r2, h3, h4⟩ := ob_some h2
      cases h4
      exact ih _ _ _ _ _ _ (rd_no17b h1) h3
    · next hl => cases h; exact ⟨hm, hl⟩
theorem rd_no16b {n : Nat} {o p e : Int} {c : List Int} {q r : Int} (h : rd T N n 8 o p e = some (.inr (c, q, r))) : ¬ wd T N q r = 17 ∧ ¬ wd T N q r = 16 := by
  cases n with
  | zero => cases h
  | succ n =>
    unfold rd at h
    simp only at h
    obtain ⟨c1, q1, r1, h1, h2⟩ := ob_some h
    obtain ⟨c2, q2, r2, h3, h4⟩ := ob_some h2
    cases h4
    exact rd_no16 _ _ _ _ _ _ _ (rd_no17b h1) h3
theorem t_all : ∀ n : Nat, n ≤ F →
    (∀ K L o p e r, (0 ≤ o ∧ o ≤ 6) → rd T N n 5 o p e = some r → tOk T N F true K L o p e [] r) ∧
    (∀ K L o p e r, (0 ≤ o ∧ o ≤ 6) → topN isN K → topN isA K → rd T N n 6 o p e = some r → tOk T N F true K L o p e [] r) ∧
    (∀ K L o p e pd r, (0 ≤ o ∧ o ≤ 6) → topN isN K → topN isA K → (pd = [] ∨ pd = [14]) → rd T N n 7 o p e = some r → tOk T N F false K L o p e pd r) ∧
    (∀ K L o p e r, (0 ≤ o ∧ o ≤ 6) → topN isN K → topN isO K → rd T N n 8 o p e = some r → tOk T N F true K L o p e [] r) ∧
    (∀ K L o p e pd r, (0 ≤ o ∧ o ≤ 6) → topN isN K → topN isO K → (pd = [] ∨ pd = [15]) → ¬ wd T N p e = 17 → rd T N n 9 o p e = some r → tOk T N F false K L o p e pd r) := by
  intro n
  induction n with
  | zero =>
    intro _
    refine ⟨?_, ?_, ?_, ?_, ?_⟩
    · intro K L o p e r _ h; cases h
    · intro K L o p e r _ _ _ h; cases h
    · intro K L o p e pd r _ _ _ _ h; cases h
    · intro K L o p e r _ _ _ h; cases h
    · intro K L o p e pd r _ _ _ _ _ h; cases h
  | succ n ih =>
    intro hnF
    obtain ⟨i5, i6, i7, i8, i9⟩ := ih (by omega)
    refine ⟨?_, ?_, ?_, ?_, ?_⟩
    · intro K L o p e r ho h
      rw [rd_5] at h
      unfold rdFact at h
      by_cases h18 : wd T N p e = 18
      · rw [if_pos h18] at h
        have hl : ¬ lk T N p = 91 := fun hl => by
          have hp : p ≤ N := by have := (lk_of (by decide) hl).1; omega
          have := (wd_lt (T := T) (N := N) (p := p) (e := e) hp (by omega)).2.2
          rw [hl] at this; exact absurd this (by decide)
        by_cases ho6 : o < 6
        · rw [if_pos ho6] at h
          have st : ∀ X, tto T N F true (16 :: K) L (o + 1) (sk T N (le T N p)) (le T N p) X → tto T N F true K L o p e X := by
            rintro X ⟨m, hm⟩
            refine ⟨m + 1, ?_⟩
            unfold tch
            rw [if_neg hl, if_pos h18, if_pos ho6]; exact hm
          rcases ob_cases h with ⟨e0, h1, h2⟩ | ⟨c1, q1, r1, h1, h2⟩
          · subst h2
            exact st _ (i5 (16 :: K) L (o + 1) _ _ _ (by omega) h1)
          · have b1 := i5 (16 :: K) L (o + 1) _ _ _ (by omega) h1
            cases h2
            rintro X ⟨m, hm⟩
            refine st _ (b1 _ ⟨m + 1, ?_⟩)
            rw [tch_N, show o + 1 - 1 = o by omega]
            simp only [List.append_nil, List.append_assoc] at hm ⊢
            exact hm
        · rw [if_neg ho6] at h
          cases h
          refine ⟨1, ?_⟩
          unfold tch
          rw [if_neg hl, if_pos h18, if_neg ho6]
      · rw [if_neg h18] at h
        by_cases hl : lk T N p = 91
        · have h19 : ¬ wd T N p e = 19 := fun h19 => by
            have hp : p ≤ N := by have := (lk_of (by decide) hl).1; omega
            have := (wd_lt (T := T) (N := N) (p := p) (e := e) hp (by omega)).2.2
            rw [hl] at this; exact absurd this (by decide)
          rw [if_neg h19, if_pos hl] at h
          by_cases ho6 : o < 6
          · rw [if_pos ho6] at h
            have st : ∀ X, tto T N F true (25 :: K) L (o + 1) (sk T N (p + 1)) e X → tto T N F true K L o p e X := by
              rintro X ⟨m, hm⟩
              refine ⟨m + 1, ?_⟩
              unfold tch
              rw [if_pos hl, if_pos ho6]; exact hm
            have tN : topN isN (25 :: K) := fun x K' h => by cases h; rfl
            have tO : topN isO (25 :: K) := fun x K' h => by cases h; rfl
            rcases ob_cases h with ⟨e0, h1, h2⟩ | ⟨c1, q1, r1, h1, h2⟩
            · subst h2
              exact st _ (i8 (25 :: K) L (o + 1) _ _ _ (by omega) tN tO h1)
            · have hA := rd_no16b h1
              have b1 := i8 (25 :: K) L (o + 1) _ _ _ (by omega) tN tO h1
              rcases os_cases h2 with ⟨e0, h3, h4⟩ | ⟨q2, r2, h3, h4⟩
              · subst h4
                refine st _ (b1 _ ⟨1, ?_⟩)
                unfold l_sign at h3
                split at h3
                · cases h3
                · next hl2 =>
                  cases h3
                  rw [tch_B tN, if_neg (fun e => hl2 e.1), if_neg hA.1, if_neg hA.2, if_pos (List.mem_cons_self ..)]
              · unfold l_sign at h3
                split at h3
                · next hl2 =>
                  cases h3; cases h4
                  rintro X ⟨m, hm⟩
                  refine st _ (b1 _ ⟨m + 1, ?_⟩)
                  rw [tch_B tN, if_pos ⟨hl2, List.mem_cons_self ..⟩, show o + 1 - 1 = o by omega]
                  simp only [List.append_nil] at hm ⊢
                  have e1 : (25 :: K).takeWhile noQ = [] ∧ ((25 :: K).dropWhile noQ).drop 1 = K := by
                    rw [List.takeWhile_cons, List.dropWhile_cons]; exact ⟨rfl, rfl⟩
                  rw [e1.1, e1.2, List.append_nil]
                  exact hm
                · cases h3
          · rw [if_neg ho6] at h
            cases h
            refine ⟨1, ?_⟩
            unfold tch
            rw [if_pos hl, if_neg ho6]
        · have hf : fct T N F o p e = some r := by
            unfold fct
            rw [if_neg hl] at h
            exact ite_mono (fun _ h => h) (fun _ => ob_mono (fun r' h => rd_mono (by omega) h) (fun c q d r' => ite_mono (fun _ => ob_mono (fun r' h => rd_mono (by omega) h) (fun _ _ _ _ h => h)) (fun _ h => h))) h
          cases r with
          | inl e0 =>
            refine ⟨1, ?_⟩
            rw [List.nil_append]
            unfold tch
            rw [if_neg hl, if_neg h18, hf]; rfl
          | inr s =>
            rintro X ⟨m, hm⟩
            refine ⟨m + 1, ?_⟩
            rw [List.nil_append]
            unfold tch
            rw [if_neg hl, if_neg h18, hf]
            simp only [List.append_nil] at hm
            exact hm
    · intro K L o p e r ho tN tA h
      have h' : ob (rd T N n 5 o p e) (fun c q r => ob (rd T N n 7 o q r) (fun c2 q r => some (.inr (c ++ c2, q, r)))) = some r := h
      rcases ob_cases h' with ⟨e0, h1, h2⟩ | ⟨c1, q1, r1, h1, h2⟩
      · subst h2; exact i5 K L o p e _ ho h1
      · have b1 := i5 K L o p e _ ho h1
        obtain ⟨r5, h5, h6⟩ := ob_pre h2
        have b2 := i7 K (L ++ c1) o q1 r1 [] r5 ho tN tA (Or.inl rfl) h5
        cases r5 with
        | inl e0 =>
          subst h6
          refine b1 _ ?_
          have b3 : tto T N F false ([] ++ K) (L ++ c1) o q1 r1 (.inl e0) := b2
          simpa using b3
        | inr s =>
          subst h6
          intro X hX
          refine b1 _ ?_
          have := b2 X (by simpa using hX)
          simpa using this
    · intro K L o p e pd r ho tN tA hpd h
      have h' : (if wd T N p e = 17 then ob (rd T N n 5 o (sk T N (le T N p)) (le T N p)) (fun c q3 r => ob (rd T N n 7 o q3 r) (fun c2 q4 r => some (.inr (c ++ (14 :: c2), q4, r)))) else some (.inr ([], p, e))) = some r := h
      by_cases hs : wd T N p e = 17
      · rw [if_pos hs] at h'
        have hl : ¬ lk T N p = 93 := fun hl => by
          have hp : p ≤ N := by have := (lk_of (by decide) hl).1; omega
          have := (wd_lt (T := T) (N := N) (p := p) (e := e) hp (by omega)).2.2
          rw [hl] at this; exact absurd this (by decide)
        have st : ∀ X, tto T N F true (14 :: K) (L ++ pd) o (sk T N (le T N p)) (le T N p) X → tto T N F false (pd ++ K) L o p e X := by
          rintro X ⟨m, hm⟩
          refine ⟨m + 1, ?_⟩
          obtain ⟨w1, w2⟩ := topN_tk tA
          have e1 : (pd ++ K).takeWhile isA = pd ∧ (pd ++ K).dropWhile isA = K := by
            rcases hpd with e | e
            · subst e; exact ⟨w1, w2⟩
            · subst e
              rw [List.cons_append, List.nil_append, List.takeWhile_cons, List.dropWhile_cons, show isA 14 = true from rfl]
              exact ⟨by rw [if_pos rfl, w1], by rw [if_pos rfl, w2]⟩
          have tp : topN isN (pd ++ K) := by
            rcases hpd with e | e
            · subst e; exact tN
            · subst e; intro x K' h; cases h; rfl
          rw [tch_B tp, if_neg (fun e => hl e.1), if_pos hs, e1.1, e1.2]
          exact hm
        rcases ob_cases h' with ⟨e0, h1, h2⟩ | ⟨c1, q1, r1, h1, h2⟩
        · subst h2
          exact st _ (i5 (14 :: K) (L ++ pd) o _ _ _ ho h1)
        · have b1 := i5 (14 :: K) (L ++ pd) o _ _ _ ho h1
          obtain ⟨r5, h5, h6⟩ := ob_pre1 h2
          have b2 := i7 K (L ++ pd ++ c1) o q1 r1 [14] r5 ho tN tA (Or.inr rfl) h5
          cases r5 with
          | inl e0 =>
            subst h6
            refine st _ (b1 _ ?_)
            have b3 : tto T N F false ([14] ++ K) (L ++ pd ++ c1) o q1 r1 (.inl e0) := b2
            simpa using b3
          | inr s =>
            subst h6
            intro X hX
            refine st _ (b1 _ ?_)
            have := b2 X (by simpa using hX)
            simpa using this
      · rw [if_neg hs] at h'
        cases h'
        rintro X ⟨m, hm⟩
        simp only [List.append_nil] at hm
        rcases hpd with e | e
        · subst e; exact ⟨m, by simpa using hm⟩
        · subst e
          exact ⟨m, by rw [List.cons_append, List.nil_append, tch_and tN hs]; exact hm⟩
    · intro K L o p e r ho tN tO h
      have h' : ob (rd T N n 6 o p e) (fun c q r => ob (rd T N n 9 o q r) (fun c2 q r => some (.inr (c ++ c2, q, r)))) = some r := h
      have tA : topN isA K := fun x K' e => by
        have := tO x K' e
        unfold isO at this; unfold isA
        rw [decide_eq_false_iff_not] at this ⊢
        omega
      rcases ob_cases h' with ⟨e0, h1, h2⟩ | ⟨c1, q1, r1, h1, h2⟩
      · subst h2; exact i6 K L o p e _ ho tN tA h1
      · have b1 := i6 K L o p e _ ho tN tA h1
        obtain ⟨r5, h5, h6⟩ := ob_pre h2
        have b2 := i9 K (L ++ c1) o q1 r1 [] r5 ho tN tO (Or.inl rfl) (rd_no17b h1) h5
        cases r5 with
        | inl e0 =>
          subst h6
          refine b1 _ ?_
          have b3 : tto T N F false ([] ++ K) (L ++ c1) o q1 r1 (.inl e0) := b2
          simpa using b3
        | inr s =>
          subst h6
          intro X hX
          refine b1 _ ?_
          have := b2 X (by simpa using hX)
          simpa using this
    · intro K L o p e pd r ho tN tO hpd hnm h
      have h' : (if wd T N p e = 16 then ob (rd T N n 6 o (sk T N (le T N p)) (le T N p)) (fun c q3 r => ob (rd T N n 9 o q3 r) (fun c2 q4 r => some (.inr (c ++ (15 :: c2), q4, r)))) else some (.inr ([], p, e))) = some r := h
      by_cases hs : wd T N p e = 16
      · rw [if_pos hs] at h'
        have hl : ¬ lk T N p = 93 := fun hl => by
          have hp : p ≤ N := by have := (lk_of (by decide) hl).1; omega
          have := (wd_lt (T := T) (N := N) (p := p) (e := e) hp (by omega)).2.2
          rw [hl] at this; exact absurd this (by decide)
        have st : ∀ X, tto T N F true (15 :: K) (L ++ pd) o (sk T N (le T N p)) (le T N p) X → tto T N F false (pd ++ K) L o p e X := by
          rintro X ⟨m, hm⟩
          refine ⟨m + 1, ?_⟩
          obtain ⟨w1, w2⟩ := topN_tk tO
          have e1 : (pd ++ K).takeWhile isO = pd ∧ (pd ++ K).dropWhile isO = K := by
            rcases hpd with e | e
            · subst e; exact ⟨w1, w2⟩
            · subst e
              rw [List.cons_append, List.nil_append, List.takeWhile_cons, List.dropWhile_cons, show isO 15 = true from rfl]
              exact ⟨by rw [if_pos rfl, w1], by rw [if_pos rfl, w2]⟩
          have tp : topN isN (pd ++ K) := by
            rcases hpd with e | e
            · subst e; exact tN
            · subst e; intro x K' h; cases h; rfl
          rw [tch_B tp, if_neg (fun e => hl e.1), if_neg hnm, if_pos hs, e1.1, e1.2]
          exact hm
        have tN15 : topN isN (15 :: K) := fun x K' h => by cases h; rfl
        have tA15 : topN isA (15 :: K) := fun x K' h => by cases h; rfl
        rcases ob_cases h' with ⟨e0, h1, h2⟩ | ⟨c1, q1, r1, h1, h2⟩
        · subst h2
          exact st _ (i6 (15 :: K) (L ++ pd) o _ _ _ ho tN15 tA15 h1)
        · have b1 := i6 (15 :: K) (L ++ pd) o _ _ _ ho tN15 tA15 h1
          obtain ⟨r5, h5, h6⟩ := ob_pre1 h2
          have b2 := i9 K (L ++ pd ++ c1) o q1 r1 [15] r5 ho tN tO (Or.inr rfl) (rd_no17b h1) h5
          cases r5 with
          | inl e0 =>
            subst h6
            refine st _ (b1 _ ?_)
            have b3 : tto T N F false ([15] ++ K) (L ++ pd ++ c1) o q1 r1 (.inl e0) := b2
            simpa using b3
          | inr s =>
            subst h6
            intro X hX
            refine st _ (b1 _ ?_)
            have := b2 X (by simpa using hX)
            simpa using this
      · rw [if_neg hs] at h'
        cases h'
        rintro X ⟨m, hm⟩
        simp only [List.append_nil] at hm
        rcases hpd with e | e
        · subst e; exact ⟨m, by simpa using hm⟩
        · subst e
          exact ⟨m, by rw [List.cons_append, List.nil_append, tch_or tN hnm hs]; exact hm⟩
theorem t_test {n : Nat} (hn : n ≤ F) {L : List Int} {o p e : Int} {r : q_R (List Int × Int × Int)} (ho : 0 ≤ o ∧ o ≤ 6) (h : rd T N n 8 o p e = some r) : tto T N F true [] L o p e (rpre L r) := by
  have := (t_all n hn).2.2.2.1 [] L o p e r ho (fun x K' h => by cases h) (fun x K' h => by cases h) h
  cases r with
  | inl e0 => exact this
  | inr s =>
    have hA := rd_no16b (c := s.1) (q := s.2.1) (r := s.2.2) h
    refine this _ ⟨1, ?_⟩
    rw [tch_B (fun x K' h => by cases h), if_neg (fun e => by have := e.2; cases this), if_neg hA.1, if_neg hA.2, if_neg (fun e => by cases e)]
    simp [rpre]
end TCH
