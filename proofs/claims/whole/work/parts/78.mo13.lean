/-! the reference: a body gives one back -/
section MO13
variable {f f' : q_F} {A : q_As}
theorem bod_del (hF : Wf A) {c a : Int → Int} {n i : Nat} (hin : i < n) (hc : ∀ k : Int, 0 ≤ k → k < n → 0 ≤ c k ∧ c k < A 0 4 0) (hu : ∀ b : Int, 0 ≤ b → held A b (c i) = false) (hne : ∀ j : Int, 0 ≤ j → j < i → ¬ c i = c j) {y : Int} (hy : 0 ≤ y ∧ y ≤ A 0 2 0) (hq : q_bod f A c (upA a i (bdy A y)) n (i + 1)) : q_bod (q_up f 271 (hix A c i y) (q_and (f 271 (hix A c i y)) (q_xor (q_shl 1 (c i)) (-1)))) A c a n i := by
  have hn := hF.nn
  obtain ⟨q1, q2, q3⟩ := hq
  have bc := hc i (by omega) (by omega)
  have bp := (hF.1.2.1 (c i) bc.1 bc.2).1
  have nS : ∀ b : Int, 0 ≤ b → hsS A c a i b (c i) = false := fun b b0 => by
    unfold hsS
    rw [hu b b0, Bool.false_or]
    cases h : anyI i (fun j => decide (a j = b) && decide (c i = c j))
    · rfl
    · obtain ⟨j, j0, j1, j2⟩ := (anyI_iff _ i).mp h
      rw [Bool.and_eq_true, decide_eq_true_iff, decide_eq_true_iff] at j2
      exact absurd j2.2 (hne j j0 j1)
  have nP : ∀ b : Int, hsP A c a i b (c i) = false := fun b => by
    unfold hsP
    cases h : anyI i (fun j => (decide (a j = 9) && decide (A 7 (c j) 0 = b)) && decide (c i = c j))
    · rfl
    · obtain ⟨j, j0, j1, j2⟩ := (anyI_iff _ i).mp h
      rw [Bool.and_eq_true, decide_eq_true_iff] at j2
      exact absurd j2.2 (hne j j0 j1)
  have cut : ∀ (P : Int → Bool), P (c i) = false → q_and (mB (fun t => P t || (true && decide (t = c i)))) (q_xor (q_shl 1 (c i)) (-1)) = mB P := fun P hP => by
    rw [mB_one (by omega), mB_andn]
    refine mB_eq (fun t _ _ => ?_)
    by_cases e : t = c i
    · rw [e, hP]; simp
    · rw [decide_eq_false e]; simp
  refine ⟨fun k k0 k1 => by rw [q_up_at (by decide)]; exact q1 k k0 k1, fun b b0 b1 => ?_, fun b b0 b1 => ?_⟩
  · have h2 := q2 b b0 b1
    rw [hsS_up] at h2
    unfold hix
    unfold bdy at h2
    by_cases e : y < A 0 2 0
    · rw [if_pos e] at h2 ⊢
      by_cases e2 : y = b
      · subst e2
        rw [decide_eq_true rfl] at h2
        rw [q_up_eq, h2]; exact cut _ (nS y b0)
      · rw [q_up_ne (Or.inr (fun e3 => e2 e3.symm)), h2, decide_eq_false e2]; simp
    · rw [if_neg e] at h2 ⊢
      rw [q_up_ne (Or.inr (by omega)), h2, decide_eq_false (p := (9 : Int) = b) (by omega)]; simp
  · have h3 := q3 b b0 b1
    rw [hsP_up] at h3
    unfold hix
    unfold bdy at h3
    by_cases e : y < A 0 2 0
    · rw [if_pos e] at h3 ⊢
      rw [q_up_ne (Or.inr (by omega)), h3, decide_eq_false (p := y = 9) (by omega)]; simp
    · rw [if_neg e] at h3 ⊢
      by_cases e2 : A 7 (c i) 0 = b
      · subst e2
        rw [decide_eq_true rfl, decide_eq_true rfl] at h3
        rw [q_up_eq, h3]; exact cut _ (nP _)
      · rw [q_up_ne (Or.inr (by omega)), h3, decide_eq_false e2]; simp
end MO13
