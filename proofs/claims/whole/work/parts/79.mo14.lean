/-! sums over bodies in the reference's order -/
def wsN (G : Int → Int) : Nat → Int → Int
  | 0, _ => 0
  | k + 1, y => G y + wsN G k (y + 1)
section MO14
variable {A : q_As}
theorem wsN_end (G : Int → Int) : ∀ (k : Nat) (y : Int), wsN G (k + 1) y = wsN G k y + G (y + k) := by
  intro k
  induction k with
  | zero => intro y; rw [wsN, wsN, wsN]; simp
  | succ k ih =>
    intro y
    rw [wsN, ih (y + 1), wsN, show y + 1 + (k : Int) = y + ((k + 1 : Nat) : Int) by omega]
    omega
theorem wsN_SB {h : Nat} (hh : (h : Int) = A 0 2 0) (F : Int → Int) : wsN (fun y => F (bdy A y)) (h + 1) 0 = SB (fun x y : Int => x + y) 0 true h F := by
  have gen : ∀ k : Nat, k ≤ h → wsN (fun y => F (bdy A y)) k 0 + F 9 = SB (fun x y : Int => x + y) 0 true k F := by
    intro k
    induction k with
    | zero => intro _; rw [wsN, SB, if_pos rfl]; omega
    | succ k ih =>
      intro hk
      have e : bdy A (0 + (k : Int)) = k := by unfold bdy; rw [if_pos (by omega)]; omega
      rw [wsN_end, SB, ← ih (by omega), e]
      omega
  have e : bdy A (0 + (h : Int)) = 9 := by unfold bdy; rw [if_neg (by omega)]
  rw [wsN_end, e]
  exact gen h (Nat.le_refl _)
theorem nxN_rg (c a : Int → Int) (l : Int) (i : Nat) : ∀ (m : Nat) (y : Int), y ≤ nxN A c a l i m y ∧ nxN A c a l i m y ≤ y + m ∧ (nxN A c a l i m y < y + m → vd (okS A c l) (smS A c) (cmS A c) (bdy A (nxN A c a l i m y)) i a = true) := by
  intro m
  induction m with
  | zero => intro y; unfold nxN; exact ⟨by omega, by omega, fun e => by omega⟩
  | succ m ih =>
    intro y
    unfold nxN
    split
    · next hv => exact ⟨by omega, by omega, fun _ => hv⟩
    · obtain ⟨h1, h2, h3⟩ := ih (y + 1)
      exact ⟨by omega, by omega, fun e => h3 (by omega)⟩
theorem wsN_nx (c a : Int → Int) (l : Int) (i : Nat) (X : Int → Int) : ∀ (m : Nat) (y : Int), wsN (fun b => if vd (okS A c l) (smS A c) (cmS A c) (bdy A b) i a then X b else 0) m y = if nxN A c a l i m y < y + m then X (nxN A c a l i m y) + wsN (fun b => if vd (okS A c l) (smS A c) (cmS A c) (bdy A b) i a then X b else 0) (y + m - nxN A c a l i m y - 1).toNat (nxN A c a l i m y + 1) else 0 := by
  intro m
  induction m with
  | zero => intro y; rw [wsN, nxN, if_neg (by omega)]
  | succ m ih =>
    intro y
    rw [wsN, nxN]
    cases hv : vd (okS A c l) (smS A c) (cmS A c) (bdy A y) i a
    · simp only [hv, Bool.false_eq_true, if_false, Int.zero_add]
      rw [ih (y + 1), show y + 1 + (m : Int) = y + ((m + 1 : Nat) : Int) by omega]
    · simp only [hv, if_true]
      rw [if_pos (by omega), show (y + ((m + 1 : Nat) : Int) - y - 1).toNat = m by omega]
end MO14
