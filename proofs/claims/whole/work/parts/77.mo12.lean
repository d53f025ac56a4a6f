/-! the reference: a body gets one, and gives it back -/
section MO12
variable {f f' : q_F} {A : q_As}
theorem nthN_lt {p : Int → Bool} : ∀ (m : Nat) (i j k : Int), 0 ≤ i → 0 ≤ j → j < k → k < cntN m i p → nthN m i j p < nthN m i k p := by
  intro m
  induction m with
  | zero => intro i j k _ j0 jk hk; unfold cntN at hk; omega
  | succ m ih =>
    intro i j k i0 j0 jk hk
    rw [cntN] at hk
    rw [nthN, nthN]
    cases hp : p i
    · rw [hp, if_neg (by decide), Int.zero_add] at hk
      rw [if_neg (by decide), if_neg (by decide)]
      exact ih _ _ _ (by omega) j0 jk hk
    · rw [hp, if_pos rfl] at hk
      rw [if_pos rfl, if_pos rfl, if_neg (show ¬ k = 0 by omega)]
      by_cases e : j = 0
      · rw [if_pos e]
        rcases nthN_rg p m (i + 1) (k - 1) (by omega) with h | h
        · exact absurd h (nthN_some m (i + 1) (k - 1) (by omega) (by omega) (by omega))
        · omega
      · rw [if_neg e]; exact ih _ _ _ (by omega) (by omega) (by omega) (by omega)
theorem nth_ne {p : Int → Bool} (hp : ∀ t, 0 ≤ t → t < 31 → p t = true → t < 24) {j k : Int} (j0 : 0 ≤ j) (jk : j < k) (k1 : k < cnt p) : ¬ nth p k = nth p j := by
  have e : cnt p = cntN 24 0 p := cntN_tail 7 24 0 (fun j a b => by
    cases hj : p j
    · rfl
    · have := hp j (by omega) (by omega) hj; omega)
  have : nth p j < nth p k := nthN_lt 24 0 j k (by decide) j0 jk (by omega)
  omega
theorem anyI_eq {p q : Int → Bool} : ∀ (m : Nat), (∀ j : Int, 0 ≤ j → j < m → p j = q j) → anyI m p = anyI m q := by
  intro m
  induction m with
  | zero => intro _; rfl
  | succ m ih => intro hh; rw [anyI, anyI, hh m (by omega) (by omega), ih (fun j a b => hh j a (by omega))]
theorem hsS_up (c a : Int → Int) (i : Nat) (b y : Int) : hsS A c (upA a i y) (i + 1) b = fun t => hsS A c a i b t || (decide (y = b) && decide (t = c i)) := by
  funext t
  unfold hsS
  rw [anyI, anyI_eq (q := fun j => decide (a j = b) && decide (t = c j)) i (fun j j0 j1 => by unfold upA; rw [if_neg (by omega)])]
  unfold upA
  rw [if_pos rfl, Bool.or_assoc, Bool.or_comm (decide (y = b) && decide (t = c i))]
theorem hsP_up (c a : Int → Int) (i : Nat) (q y : Int) : hsP A c (upA a i y) (i + 1) q = fun t => hsP A c a i q t || ((decide (y = 9) && decide (A 7 (c i) 0 = q)) && decide (t = c i)) := by
  funext t
  unfold hsP
  rw [anyI, anyI_eq (q := fun j => (decide (a j = 9) && decide (A 7 (c j) 0 = q)) && decide (t = c j)) i (fun j j0 j1 => by unfold upA; rw [if_neg (by omega)])]
  unfold upA
  rw [if_pos rfl, Bool.or_comm]
/-- which of bodyHas a body is -/
def hix (A : q_As) (c : Int → Int) (i : Nat) (y : Int) : Int := if y < A 0 2 0 then y else 5 + A 7 (c i) 0
theorem bod_add (hF : Wf A) {c a : Int → Int} {n i : Nat} (hin : i < n) (hc : ∀ k : Int, 0 ≤ k → k < n → 0 ≤ c k ∧ c k < A 0 4 0) {y : Int} (hy : 0 ≤ y ∧ y ≤ A 0 2 0) (hq : q_bod f A c a n i) : q_bod (q_up f 271 (hix A c i y) (q_or (f 271 (hix A c i y)) (q_shl 1 (c i)))) A c (upA a i (bdy A y)) n (i + 1) := by
  have hn := hF.nn
  obtain ⟨q1, q2, q3⟩ := hq
  have bc := hc i (by omega) (by omega)
  have bp := (hF.1.2.1 (c i) bc.1 bc.2).1
  refine ⟨fun k k0 k1 => by rw [q_up_at (by decide)]; exact q1 k k0 k1, fun b b0 b1 => ?_, fun b b0 b1 => ?_⟩
  · rw [hsS_up]
    unfold hix bdy
    by_cases e : y < A 0 2 0
    · rw [if_pos e, if_pos e]
      by_cases e2 : y = b
      · subst e2
        rw [q_up_eq, q2 y b0 b1, mB_one (by omega), mB_or, decide_eq_true rfl]; rfl
      · rw [q_up_ne (Or.inr (fun e3 => e2 e3.symm)), q2 b b0 b1, decide_eq_false e2]; simp
    · rw [if_neg e, if_neg e, q_up_ne (Or.inr (by omega)), q2 b b0 b1, decide_eq_false (p := (9 : Int) = b) (by omega)]; simp
  · rw [hsP_up]
    unfold hix bdy
    by_cases e : y < A 0 2 0
    · rw [if_pos e, if_pos e, q_up_ne (Or.inr (by omega)), q3 b b0 b1, decide_eq_false (p := y = 9) (by omega)]; simp
    · rw [if_neg e, if_neg e]
      by_cases e2 : A 7 (c i) 0 = b
      · subst e2
        rw [q_up_eq, q3 _ b0 b1, mB_one (by omega), mB_or, decide_eq_true rfl, decide_eq_true rfl]; rfl
      · rw [q_up_ne (Or.inr (by omega)), q3 b b0 b1, decide_eq_false e2]; simp
end MO12
