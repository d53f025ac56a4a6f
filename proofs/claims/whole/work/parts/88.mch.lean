/-! the reference's way to read sums: a stack of what waits; it tells the same codes -/
def isMk (x : Int) : Bool := decide (20 ≤ x ∧ x ≤ 24)
def isMu (x : Int) : Bool := decide (x = 3 ∨ x = 4)
def isAr (x : Int) : Bool := decide (x = 3 ∨ x = 4 ∨ x = 1 ∨ x = 2)
/-- the last mark -/
def tmk : List Int → Int
  | [] => -1
  | x :: K => if isMk x then x else tmk K
/-- how many stand ahead of it -/
def tkm (K : List Int) : List Int := K.takeWhile (fun x => !isMk x)
/-- what stands behind the mark -/
def drm (K : List Int) : List Int := (K.dropWhile (fun x => !isMk x)).drop 1
def opc (c : Int) : Int := if c = 42 then 3 else if c = 47 then 4 else if c = 43 then 1 else 2
def mch (T : Int → Int) (N : Int) : Nat → Bool → List Int → List Int → Int → Int → Int → q_O
  | 0, _, _, _, _, _, _ => none
  | n + 1, true, K, L, o, p, e =>
    if lk T N p = 40 then (if o < 6 then mch T N n true (20 :: K) L (o + 1) (sk T N (p + 1)) e else some (.inl (4, p)))
    else if wd T N p e = 23 ∨ wd T N p e = 24 then (if lk T N (sk T N (le T N p)) = 40 then (if o < 6 then mch T N n true ((if wd T N p e = 23 then 21 else 22) :: K) L (o + 1) (sk T N (sk T N (le T N p) + 1)) (le T N p) else some (.inl (4, sk T N (le T N p)))) else some (.inl (1, sk T N (le T N p))))
    else if isV (wd T N p e) then mch T N n false K (L ++ [wcd (wd T N p e)]) o (sk T N (le T N p)) (le T N p)
    else match l_num T N 0 9999 p e with
      | .inl e => some (.inl e)
      | .inr s => mch T N n false K (L ++ [1000 + s.1]) o s.2.1 s.2.2
  | n + 1, false, K, L, o, p, e =>
    if lk T N p = 41 ∧ (tmk K = 20 ∨ tmk K = 23 ∨ tmk K = 24) then mch T N n false (drm K) (L ++ tkm K ++ (if tmk K = 20 then [] else [if tmk K = 23 then 5 else 6])) (o - 1) (sk T N (p + 1)) e
    else if lk T N p = 42 ∨ lk T N p = 47 then mch T N n true (opc (lk T N p) :: K.dropWhile isMu) (L ++ K.takeWhile isMu) o (sk T N (p + 1)) e
    else if lk T N p = 43 ∨ lk T N p = 45 then mch T N n true (opc (lk T N p) :: K.dropWhile isAr) (L ++ K.takeWhile isAr) o (sk T N (p + 1)) e
    else if tmk K = 21 ∨ tmk K = 22 then (if lk T N p = 44 then mch T N n true ((tmk K + 2) :: drm K) (L ++ tkm K) o (sk T N (p + 1)) e else some (.inl (1, p)))
    else if tmk K = -1 then some (.inr (L ++ K, p, e))
    else some (.inl (1, p))
/-- the machine comes to X -/
def mto (T : Int → Int) (N : Int) (b : Bool) (K L : List Int) (o p e : Int) (X : q_R (List Int × Int × Int)) : Prop := ∃ n, mch T N n b K L o p e = some X
def noM (T : Int → Int) (N p : Int) : Prop := ¬ lk T N p = 42 ∧ ¬ lk T N p = 47
def noA (T : Int → Int) (N p : Int) : Prop := ¬ lk T N p = 42 ∧ ¬ lk T N p = 47 ∧ ¬ lk T N p = 43 ∧ ¬ lk T N p = 45
section MCH
variable {T : Int → Int} {N : Int}
theorem rd_noM : ∀ (n : Nat) (o p e : Int) (c : List Int) (q r : Int), rd T N n 2 o p e = some (.inr (c, q, r)) → noM T N q := by
  intro n
  induction n with
  | zero => intro o p e c q r h; cases h
  | succ n ih =>
    intro o p e c q r h
    unfold rd at h
    simp only at h
    split at h
    · obtain ⟨c1, q1, r1, h1, h2⟩ := ob_some h
      obtain ⟨c2, q2, r2, h3, h4⟩ := ob_some h2
      cases h4
      exact ih _ _ _ _ _ _ h3
    · next hl => cases h; exact ⟨fun e => hl (Or.inl e), fun e => hl (Or.inr e)⟩
theorem rd_noM1 {n : Nat} {o p e : Int} {c : List Int} {q r : Int} (h : rd T N n 1 o p e = some (.inr (c, q, r))) : noM T N q := by
  cases n with
  | zero => cases h
  | succ n =>
    unfold rd at h
    simp only at h
    obtain ⟨c1, q1, r1, h1, h2⟩ := ob_some h
    obtain ⟨c2, q2, r2, h3, h4⟩ := ob_some h2
    cases h4
    exact rd_noM _ _ _ _ _ _ _ h3
theorem rd_noA : ∀ (n : Nat) (o p e : Int) (c : List Int) (q r : Int), noM T N p → rd T N n 4 o p e = some (.inr (c, q, r)) → noA T N q := by
  intro n
  induction n with
  | zero => intro o p e c q r _ h; cases h
  | succ n ih =>
    intro o p e c q r hm h
    unfold rd at h
    simp only at h
    split at h
    · obtain ⟨c1, q1, r1, h1, h2⟩ := ob_some h
      obtain ⟨c2, q2, r2, h3, h4⟩ := ob_some h2
      cases h4
      exact ih _ _ _ _ _ _ (rd_noM1 h1) h3
    · next hl => cases h; exact ⟨hm.1, hm.2, fun e => hl (Or.inl e), fun e => hl (Or.inr e)⟩
theorem rd_noA3 {n : Nat} {o p e : Int} {c : List Int} {q r : Int} (h : rd T N n 3 o p e = some (.inr (c, q, r))) : noA T N q := by
  cases n with
  | zero => cases h
  | succ n =>
    unfold rd at h
    simp only at h
    obtain ⟨c1, q1, r1, h1, h2⟩ := ob_some h
    obtain ⟨c2, q2, r2, h3, h4⟩ := ob_some h2
    cases h4
    exact rd_noA _ _ _ _ _ _ _ (rd_noM1 h1) h3
theorem tmk_op {x : Int} {K : List Int} (h : isAr x = true) : tmk (x :: K) = tmk K ∧ tkm (x :: K) = x :: tkm K ∧ drm (x :: K) = drm K := by
  have hm : isMk x = false := by unfold isAr at h; unfold isMk; rw [decide_eq_true_iff] at h; rw [decide_eq_false_iff_not]; omega
  refine ⟨?_, ?_, ?_⟩
  · show (if isMk x then x else tmk K) = tmk K
    rw [hm]; rfl
  · unfold tkm; rw [List.takeWhile_cons, hm]; rfl
  · unfold drm; rw [List.dropWhile_cons, hm]; rfl
theorem tmk_mk {x : Int} {K : List Int} (h : isMk x = true) : tmk (x :: K) = x ∧ tkm (x :: K) = [] ∧ drm (x :: K) = K := by
  refine ⟨?_, ?_, ?_⟩
  · show (if isMk x then x else tmk K) = x
    rw [h]; rfl
  · unfold tkm; rw [List.takeWhile_cons, h]; rfl
  · unfold drm; rw [List.dropWhile_cons, h]; rfl
/-- what waits with a product's sign, told at once: the same, where no such sign follows -/
theorem mch_mu {n : Nat} {x : Int} {K L : List Int} {o p e : Int} (hx : isMu x = true) (hp : noM T N p) : mch T N n false (x :: K) L o p e = mch T N n false K (L ++ [x]) o p e := by
  have ha : isAr x = true := by unfold isMu at hx; unfold isAr; rw [decide_eq_true_iff] at hx ⊢; omega
  obtain ⟨h1, h2, h3⟩ := tmk_op (K := K) ha
  cases n with
  | zero => rfl
  | succ n =>
    unfold mch
    rw [h1, h2, h3, if_neg (c := lk T N p = 42 ∨ lk T N p = 47) (fun e => e.elim hp.1 hp.2), if_neg (c := lk T N p = 42 ∨ lk T N p = 47) (fun e => e.elim hp.1 hp.2)]
    simp [List.takeWhile_cons, List.dropWhile_cons, ha]
theorem mch_ad {n : Nat} {x : Int} {K L : List Int} {o p e : Int} (ha : isAr x = true) (hp : noA T N p) : mch T N n false (x :: K) L o p e = mch T N n false K (L ++ [x]) o p e := by
  obtain ⟨h1, h2, h3⟩ := tmk_op (K := K) ha
  cases n with
  | zero => rfl
  | succ n =>
    unfold mch
    rw [h1, h2, h3, if_neg (c := lk T N p = 42 ∨ lk T N p = 47) (fun e => e.elim hp.1 hp.2.1), if_neg (c := lk T N p = 42 ∨ lk T N p = 47) (fun e => e.elim hp.1 hp.2.1), if_neg (c := lk T N p = 43 ∨ lk T N p = 45) (fun e => e.elim hp.2.2.1 hp.2.2.2), if_neg (c := lk T N p = 43 ∨ lk T N p = 45) (fun e => e.elim hp.2.2.1 hp.2.2.2)]
    simp
def topN (P : Int → Bool) (K : List Int) : Prop := ∀ x K', K = x :: K' → P x = false
theorem topN_tk {P : Int → Bool} {K : List Int} (h : topN P K) : K.takeWhile P = [] ∧ K.dropWhile P = K := by
  cases K with
  | nil => exact ⟨rfl, rfl⟩
  | cons x K => rw [List.takeWhile_cons, List.dropWhile_cons, h x K rfl]; exact ⟨rfl, rfl⟩
/-- as rd reads in a mode, so does the machine -/
def mOk (T : Int → Int) (N : Int) (b : Bool) (K L : List Int) (o p e : Int) (pd : List Int) (r : q_R (List Int × Int × Int)) : Prop := match r with
  | .inl e0 => mto T N b (pd ++ K) L o p e (.inl e0)
  | .inr s => ∀ X, mto T N false K (L ++ pd ++ s.1) o s.2.1 s.2.2 X → mto T N b (pd ++ K) L o p e X
theorem m_all : ∀ n : Nat,
    (∀ K L o p e r, (0 ≤ o ∧ o ≤ 6) → rd T N n 0 o p e = some r → mOk T N true K L o p e [] r) ∧
    (∀ K L o p e r, (0 ≤ o ∧ o ≤ 6) → topN isMu K → rd T N n 1 o p e = some r → mOk T N true K L o p e [] r) ∧
    (∀ K L o p e pd r, (0 ≤ o ∧ o ≤ 6) → topN isMu K → (pd = [] ∨ ∃ x, pd = [x] ∧ isMu x = true) → rd T N n 2 o p e = some r → mOk T N false K L o p e pd r) ∧
    (∀ K L o p e r, (0 ≤ o ∧ o ≤ 6) → topN isAr K → rd T N n 3 o p e = some r → mOk T N true K L o p e [] r) ∧
    (∀ K L o p e pd r, (0 ≤ o ∧ o ≤ 6) → topN isAr K → (pd = [] ∨ ∃ x, pd = [x] ∧ (x = 1 ∨ x = 2)) → noM T N p → rd T N n 4 o p e = some r → mOk T N false K L o p e pd r) := by
  intro n
  induction n with
  | zero =>
    refine ⟨?_, ?_, ?_, ?_, ?_⟩
    · intro K L o p e r _ h; cases h
    · intro K L o p e r _ _ h; cases h
    · intro K L o p e pd r _ _ _ h; cases h
    · intro K L o p e r _ _ h; cases h
    · intro K L o p e pd r _ _ _ _ h; cases h
  | succ n ih =>
    obtain ⟨i0, i1, i2, i3, i4⟩ := ih
    refine ⟨?_, ?_, ?_, ?_, ?_⟩
    · intro K L o p e r ho h
      rw [rd_0] at h
      unfold rdPart at h
      by_cases hg : isG (lk T N p) = true
      · rw [if_pos hg] at h
        have hlr : 48 ≤ lk T N p ∧ lk T N p ≤ 57 := by unfold isG at hg; rwa [decide_eq_true_iff] at hg
        have hnw : wd T N p e = -1 := by
          by_cases hw : wd T N p e = -1
          · exact hw
          · have hp : p ≤ N := by have := (lk_isG hg).1; omega
            have := (wd_lt hp hw).2.2
            unfold isL at this; rw [decide_eq_true_iff] at this; omega
        unfold rdNum at h
        cases hn : l_num T N 0 9999 p e with
        | inl e0 =>
          rw [hn] at h; cases h
          refine ⟨1, ?_⟩
          unfold mch
          rw [if_neg (by omega), if_neg (by omega), if_neg (by omega), hn]
        | inr s =>
          rw [hn] at h; cases h
          intro X hX
          obtain ⟨m, hm⟩ := hX
          refine ⟨m + 1, ?_⟩
          simp only [List.append_nil] at hm
          rw [List.nil_append]
          unfold mch
          rw [if_neg (by omega), if_neg (by omega), if_neg (by omega), hn]
          exact hm
      · rw [if_neg hg] at h
        by_cases hl : lk T N p = 40
        · rw [if_pos hl] at h
          by_cases ho6 : o < 6
          · rw [if_pos ho6] at h
            have st : ∀ X, mto T N true (20 :: K) L (o + 1) (sk T N (p + 1)) e X → mto T N true K L o p e X := by
              rintro X ⟨m, hm⟩
              refine ⟨m + 1, ?_⟩
              unfold mch
              rw [if_pos hl, if_pos ho6]; exact hm
            have top : topN isAr (20 :: K) := by intro x K' h; cases h; decide
            rcases ob_cases h with ⟨e0, h1, h2⟩ | ⟨c1, q1, r1, h1, h2⟩
            · subst h2
              exact st _ (i3 (20 :: K) L (o + 1) _ _ _ (by omega) top h1)
            · have hA := rd_noA3 h1
              have b1 := i3 (20 :: K) L (o + 1) _ _ _ (by omega) top h1
              obtain ⟨t1, t2, t3⟩ := tmk_mk (x := 20) (K := K) (by decide)
              rcases os_cases h2 with ⟨e0, h3, h4⟩ | ⟨q2, r2, h3, h4⟩
              · subst h4
                refine st _ (b1 _ ⟨1, ?_⟩)
                unfold l_sign at h3
                split at h3
                · cases h3
                · next hl2 =>
                  cases h3
                  unfold mch
                  rw [t1, if_neg (fun e => hl2 e.1), if_neg (fun e => e.elim hA.1 hA.2.1), if_neg (fun e => e.elim hA.2.2.1 hA.2.2.2), if_neg (by decide), if_neg (by decide)]
              · unfold l_sign at h3
                split at h3
                · next hl2 =>
                  cases h3; cases h4
                  rintro X ⟨m, hm⟩
                  refine st _ (b1 _ ⟨m + 1, ?_⟩)
                  unfold mch
                  simp only [List.append_nil] at hm ⊢
                  rw [t1, t2, t3, if_pos ⟨hl2, Or.inl rfl⟩, if_pos rfl, List.append_nil, List.append_nil, show o + 1 - 1 = o by omega]
                  exact hm
                · cases h3
          · rw [if_neg ho6] at h
            cases h
            refine ⟨1, ?_⟩
            unfold mch
            rw [if_pos hl, if_neg ho6]
        · rw [if_neg hl] at h
          by_cases hv : isV (wd T N p e)
          · rw [if_pos hv] at h
            cases h
            rintro X ⟨m, hm⟩
            refine ⟨m + 1, ?_⟩
            simp only [List.append_nil] at hm
            rw [List.nil_append]
            unfold mch
            rw [if_neg hl, if_neg (by unfold isV at hv; omega), if_pos hv]
            exact hm
          · rw [if_neg hv] at h
            by_cases hw : wd T N p e = 23 ∨ wd T N p e = 24
            · rw [if_pos hw] at h
              by_cases hl2 : lk T N (sk T N (le T N p)) = 40
              · rw [if_pos hl2] at h
                by_cases ho6 : o < 6
                · rw [if_pos ho6] at h
                  have hmk : isMk (if wd T N p e = 23 then 21 else 22) = true ∧ isMk ((if wd T N p e = 23 then 21 else 22) + 2) = true ∧ isAr (if wd T N p e = 23 then 21 else 22) = false ∧ isAr ((if wd T N p e = 23 then 21 else 22) + 2) = false := by
                    rcases hw with h | h <;> rw [h] <;> decide
                  have st : ∀ X, mto T N true ((if wd T N p e = 23 then 21 else 22) :: K) L (o + 1) (sk T N (sk T N (le T N p) + 1)) (le T N p) X → mto T N true K L o p e X := by
                    rintro X ⟨m, hm⟩
                    refine ⟨m + 1, ?_⟩
                    unfold mch
                    rw [if_neg hl, if_pos hw, if_pos hl2, if_pos ho6]; exact hm
                  have hz : (if wd T N p e = 23 then (5 : Int) else 6) = if (if wd T N p e = 23 then (21 : Int) else 22) + 2 = 23 then 5 else 6 := by
                    rcases hw with h | h <;> rw [h] <;> decide
                  have hz2 : (if wd T N p e = 23 then (21 : Int) else 22) = 21 ∨ (if wd T N p e = 23 then (21 : Int) else 22) = 22 := by
                    rcases hw with h | h <;> rw [h] <;> decide
                  rw [hz] at h
                  generalize hM : (if wd T N p e = 23 then (21 : Int) else 22) = M at *
                  have top : topN isAr (M :: K) := by intro x K' h; cases h; exact hmk.2.2.1
                  have top2 : topN isAr ((M + 2) :: K) := by intro x K' h; cases h; exact hmk.2.2.2
                  obtain ⟨t1, t2, t3⟩ := tmk_mk (x := M) (K := K) hmk.1
                  obtain ⟨u1, u2, u3⟩ := tmk_mk (x := M + 2) (K := K) hmk.2.1
                  rcases ob_cases h with ⟨e0, h1, h2⟩ | ⟨c1, q1, r1, h1, h2⟩
                  · subst h2
                    exact st _ (i3 (M :: K) L (o + 1) _ _ _ (by omega) top h1)
                  · have hA := rd_noA3 h1
                    have b1 := i3 (M :: K) L (o + 1) _ _ _ (by omega) top h1
                    rcases os_cases h2 with ⟨e0, h3, h4⟩ | ⟨q2, r2, h3, h4⟩
                    · subst h4
                      refine st _ (b1 _ ⟨1, ?_⟩)
                      unfold l_sign at h3
                      split at h3
                      · cases h3
                      · next hl3 =>
                        cases h3
                        unfold mch
                        rw [t1, if_neg (fun e => by omega), if_neg (fun e => e.elim hA.1 hA.2.1), if_neg (fun e => e.elim hA.2.2.1 hA.2.2.2), if_pos hz2, if_neg hl3]
                    · unfold l_sign at h3
                      split at h3
                      · next hl3 =>
                        cases h3
                        have st2 : ∀ X, mto T N true ((M + 2) :: K) (L ++ c1) (o + 1) (sk T N (q1 + 1)) r1 X → mto T N true K L o p e X := by
                          rintro X ⟨m, hm⟩
                          refine st _ (b1 _ ⟨m + 1, ?_⟩)
                          unfold mch
                          rw [t1, t2, t3, if_neg (fun e => by omega), if_neg (fun e => e.elim hA.1 hA.2.1), if_neg (fun e => e.elim hA.2.2.1 hA.2.2.2), if_pos hz2, if_pos hl3]
                          simp only [List.append_nil]
                          exact hm
                        rcases ob_cases h4 with ⟨e0, h5, h6⟩ | ⟨c2, q3, r3, h5, h6⟩
                        · subst h6
                          exact st2 _ (i3 ((M + 2) :: K) (L ++ c1) (o + 1) _ _ _ (by omega) top2 h5)
                        · have hA2 := rd_noA3 h5
                          have b2 := i3 ((M + 2) :: K) (L ++ c1) (o + 1) _ _ _ (by omega) top2 h5
                          rcases os_cases h6 with ⟨e0, h7, h8⟩ | ⟨q4, r4, h7, h8⟩
                          · subst h8
                            refine st2 _ (b2 _ ⟨1, ?_⟩)
                            unfold l_sign at h7
                            split at h7
                            · cases h7
                            · next hl4 =>
                              cases h7
                              unfold mch
                              rw [u1, if_neg (fun e => hl4 e.1), if_neg (fun e => e.elim hA2.1 hA2.2.1), if_neg (fun e => e.elim hA2.2.2.1 hA2.2.2.2), if_neg (by omega), if_neg (by omega)]
                          · unfold l_sign at h7
                            split at h7
                            · next hl4 =>
                              cases h7; cases h8
                              rintro X ⟨m, hm⟩
                              refine st2 _ (b2 _ ⟨m + 1, ?_⟩)
                              unfold mch
                              rw [u1, u2, u3, if_pos ⟨hl4, by omega⟩, if_neg (by omega), show o + 1 - 1 = o by omega]
                              simp only [List.append_nil, List.append_assoc] at hm ⊢
                              exact hm
                            · cases h7
                      · cases h3
                · rw [if_neg ho6] at h
                  cases h
                  refine ⟨1, ?_⟩
                  unfold mch
                  rw [if_neg hl, if_pos hw, if_pos hl2, if_neg ho6]
              · rw [if_neg hl2] at h
                cases h
                refine ⟨1, ?_⟩
                unfold mch
                rw [if_neg hl, if_pos hw, if_neg hl2]
            · rw [if_neg hw] at h
              cases h
              refine ⟨1, ?_⟩
              unfold mch
              rw [if_neg hl, if_neg hw, if_neg hv]
              have : l_num T N 0 9999 p e = .inl (1, p) := by unfold l_num; rw [if_neg (fun h => hg h.1)]
              rw [this]
    · intro K L o p e r ho top h
      have h' : ob (rd T N n 0 o p e) (fun c q r => ob (rd T N n 2 o q r) (fun c2 q r => some (.inr (c ++ c2, q, r)))) = some r := h
      rcases ob_cases h' with ⟨e0, h1, h2⟩ | ⟨c1, q1, r1, h1, h2⟩
      · subst h2; exact i0 K L o p e _ ho h1
      · have b1 := i0 K L o p e _ ho h1
        obtain ⟨r5, h5, h6⟩ := ob_pre h2
        have b2 := i2 K (L ++ c1) o q1 r1 [] r5 ho top (Or.inl rfl) h5
        cases r5 with
        | inl e0 =>
          subst h6
          refine b1 _ ?_
          exact (show mto T N false ([] ++ K) (L ++ c1) o q1 r1 (.inl e0) from b2) |> fun h => by simpa using h
        | inr s =>
          subst h6
          intro X hX
          refine b1 _ ?_
          have := b2 X (by simpa using hX)
          simpa using this
    · intro K L o p e pd r ho top hpd h
      have h' : (if lk T N p = 42 ∨ lk T N p = 47 then ob (rd T N n 0 o (sk T N (p + 1)) e) (fun c q3 r => ob (rd T N n 2 o q3 r) (fun c2 q4 r => some (.inr (c ++ ((if lk T N p = 42 then 3 else 4) :: c2), q4, r)))) else some (.inr ([], p, e))) = some r := h
      by_cases hs : lk T N p = 42 ∨ lk T N p = 47
      · rw [if_pos hs] at h'
        have hop : opc (lk T N p) = if lk T N p = 42 then 3 else 4 := by rcases hs with e | e <;> rw [e] <;> rfl
        have hmu : isMu (if lk T N p = 42 then 3 else 4) = true := by rcases hs with e | e <;> rw [e] <;> rfl
        generalize hz : (if lk T N p = 42 then (3 : Int) else 4) = z at *
        have st : ∀ X, mto T N true (z :: K) (L ++ pd) o (sk T N (p + 1)) e X → mto T N false (pd ++ K) L o p e X := by
          rintro X ⟨m, hm⟩
          refine ⟨m + 1, ?_⟩
          obtain ⟨w1, w2⟩ := topN_tk top
          have e1 : (pd ++ K).takeWhile isMu = pd ∧ (pd ++ K).dropWhile isMu = K := by
            rcases hpd with e | ⟨x, e, hx⟩
            · subst e; exact ⟨w1, w2⟩
            · subst e
              rw [List.cons_append, List.nil_append, List.takeWhile_cons, List.dropWhile_cons, hx]
              exact ⟨by rw [if_pos rfl, w1], by rw [if_pos rfl, w2]⟩
          unfold mch
          rw [if_neg (fun e => by omega), if_pos hs, e1.1, e1.2, hop]
          exact hm
        have topz : topN isMu (z :: K) → True := fun _ => trivial
        rcases ob_cases h' with ⟨e0, h1, h2⟩ | ⟨c1, q1, r1, h1, h2⟩
        · subst h2
          exact st _ (i0 (z :: K) (L ++ pd) o _ e _ ho h1)
        · have b1 := i0 (z :: K) (L ++ pd) o _ e _ ho h1
          obtain ⟨r5, h5, h6⟩ := ob_pre1 h2
          have b2 := i2 K (L ++ pd ++ c1) o q1 r1 [z] r5 ho top (Or.inr ⟨z, rfl, hmu⟩) h5
          cases r5 with
          | inl e0 =>
            subst h6
            refine st _ (b1 _ ?_)
            exact (show mto T N false ([z] ++ K) (L ++ pd ++ c1) o q1 r1 (.inl e0) from b2) |> fun h => by simpa using h
          | inr s =>
            subst h6
            intro X hX
            refine st _ (b1 _ ?_)
            have := b2 X (by simpa using hX)
            simpa using this
      · rw [if_neg hs] at h'
        cases h'
        rintro X ⟨m, hm⟩
        have hno : noM T N p := ⟨fun e => hs (Or.inl e), fun e => hs (Or.inr e)⟩
        simp only [List.append_nil] at hm
        rcases hpd with e | ⟨x, e, hx⟩
        · subst e; exact ⟨m, by simpa using hm⟩
        · subst e
          exact ⟨m, by rw [List.cons_append, List.nil_append, mch_mu hx hno]; exact hm⟩
    · intro K L o p e r ho top h
      have h' : ob (rd T N n 1 o p e) (fun c q r => ob (rd T N n 4 o q r) (fun c2 q r => some (.inr (c ++ c2, q, r)))) = some r := h
      have topm : topN isMu K := fun x K' e => by
        have := top x K' e
        unfold isAr at this; unfold isMu
        rw [decide_eq_false_iff_not] at this ⊢
        omega
      rcases ob_cases h' with ⟨e0, h1, h2⟩ | ⟨c1, q1, r1, h1, h2⟩
      · subst h2; exact i1 K L o p e _ ho topm h1
      · have b1 := i1 K L o p e _ ho topm h1
        obtain ⟨r5, h5, h6⟩ := ob_pre h2
        have b2 := i4 K (L ++ c1) o q1 r1 [] r5 ho top (Or.inl rfl) (rd_noM1 h1) h5
        cases r5 with
        | inl e0 =>
          subst h6
          refine b1 _ ?_
          exact (show mto T N false ([] ++ K) (L ++ c1) o q1 r1 (.inl e0) from b2) |> fun h => by simpa using h
        | inr s =>
          subst h6
          intro X hX
          refine b1 _ ?_
          have := b2 X (by simpa using hX)
          simpa using this
    · intro K L o p e pd r ho top hpd hnm h
      have h' : (if lk T N p = 43 ∨ lk T N p = 45 then ob (rd T N n 1 o (sk T N (p + 1)) e) (fun c q3 r => ob (rd T N n 4 o q3 r) (fun c2 q4 r => some (.inr (c ++ ((if lk T N p = 43 then 1 else 2) :: c2), q4, r)))) else some (.inr ([], p, e))) = some r := h
      by_cases hs : lk T N p = 43 ∨ lk T N p = 45
      · rw [if_pos hs] at h'
        have hop : opc (lk T N p) = if lk T N p = 43 then 1 else 2 := by rcases hs with e | e <;> rw [e] <;> rfl
        have hmu : (if lk T N p = 43 then (1 : Int) else 2) = 1 ∨ (if lk T N p = 43 then (1 : Int) else 2) = 2 := by rcases hs with e | e <;> rw [e] <;> decide
        generalize hz : (if lk T N p = 43 then (1 : Int) else 2) = z at *
        have st : ∀ X, mto T N true (z :: K) (L ++ pd) o (sk T N (p + 1)) e X → mto T N false (pd ++ K) L o p e X := by
          rintro X ⟨m, hm⟩
          refine ⟨m + 1, ?_⟩
          obtain ⟨w1, w2⟩ := topN_tk top
          have e1 : (pd ++ K).takeWhile isAr = pd ∧ (pd ++ K).dropWhile isAr = K := by
            rcases hpd with e | ⟨x, e, hx⟩
            · subst e; exact ⟨w1, w2⟩
            · subst e
              have hx2 : isAr x = true := by unfold isAr; rw [decide_eq_true_iff]; omega
              rw [List.cons_append, List.nil_append, List.takeWhile_cons, List.dropWhile_cons, hx2]
              exact ⟨by rw [if_pos rfl, w1], by rw [if_pos rfl, w2]⟩
          unfold mch
          rw [if_neg (fun e => by omega), if_neg (fun e => by omega), if_pos hs, e1.1, e1.2, hop]
          exact hm
        have topm : topN isMu (z :: K) := by
          intro x K' e; cases e
          unfold isMu; rw [decide_eq_false_iff_not]; omega
        rcases ob_cases h' with ⟨e0, h1, h2⟩ | ⟨c1, q1, r1, h1, h2⟩
        · subst h2
          exact st _ (i1 (z :: K) (L ++ pd) o _ e _ ho topm h1)
        · have b1 := i1 (z :: K) (L ++ pd) o _ e _ ho topm h1
          obtain ⟨r5, h5, h6⟩ := ob_pre1 h2
          have b2 := i4 K (L ++ pd ++ c1) o q1 r1 [z] r5 ho top (Or.inr ⟨z, rfl, hmu⟩) (rd_noM1 h1) h5
          cases r5 with
          | inl e0 =>
            subst h6
            refine st _ (b1 _ ?_)
            exact (show mto T N false ([z] ++ K) (L ++ pd ++ c1) o q1 r1 (.inl e0) from b2) |> fun h => by simpa using h
          | inr s =>
            subst h6
            intro X hX
            refine st _ (b1 _ ?_)
            have := b2 X (by simpa using hX)
            simpa using this
      · rw [if_neg hs] at h'
        cases h'
        rintro X ⟨m, hm⟩
        have hno : noA T N p := ⟨hnm.1, hnm.2, fun e => hs (Or.inl e), fun e => hs (Or.inr e)⟩
        simp only [List.append_nil] at hm
        rcases hpd with e | ⟨x, e, hx⟩
        · subst e; exact ⟨m, by simpa using hm⟩
        · subst e
          have hx2 : isAr x = true := by unfold isAr; rw [decide_eq_true_iff]; omega
          exact ⟨m, by rw [List.cons_append, List.nil_append, mch_ad hx2 hno]; exact hm⟩
/-- a whole sum -/
theorem m_sum {n : Nat} {L : List Int} {o p e : Int} {r : q_R (List Int × Int × Int)} (ho : 0 ≤ o ∧ o ≤ 6) (h : rd T N n 3 o p e = some r) : mto T N true [] L o p e (rpre L r) := by
  have := (m_all n).2.2.2.1 [] L o p e r ho (fun x K' h => by cases h) h
  cases r with
  | inl e0 => exact this
  | inr s =>
    have hA := rd_noA3 (c := s.1) (q := s.2.1) (r := s.2.2) h
    refine this _ ⟨1, ?_⟩
    unfold mch
    rw [if_neg (fun e => by have := e.2; revert this; decide), if_neg (fun e => e.elim hA.1 hA.2.1), if_neg (fun e => e.elim hA.2.2.1 hA.2.2.2), if_neg (by decide), if_pos (show tmk [] = -1 from rfl)]
    simp [rpre]
end MCH
