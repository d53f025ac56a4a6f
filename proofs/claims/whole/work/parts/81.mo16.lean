/-! the reference: crews -/
def wsO (G : Int → Option Int) : Nat → Int → Option Int
  | 0, _ => none
  | k + 1, y => tad (G y) (wsO G k (y + 1))
def pwI (i : Nat) : Int := 78125 / 5 ^ i
def pcC (a : Int → Int) : Nat → Int
  | 0 => 0
  | i + 1 => pcC a i + a i * pwI (i + 1)
def pcP (A : q_As) (c a : Int → Int) : Nat → Int
  | 0 => 0
  | i + 1 => pcP A c a i + A 9 (a i) (c i)
def bs (v : Option Int) : Int := match v with
  | none => -1
  | some x => x / 78125
section MO16P
variable {A : q_As}
theorem tad_nor (v : Option Int) : tad v none = v := by cases v <;> rfl
theorem tml_no (v : Option Int) : tml v none = none := by cases v <;> rfl
theorem wsO_end (G : Int → Option Int) : ∀ (k : Nat) (y : Int), wsO G (k + 1) y = tad (wsO G k y) (G (y + k)) := by
  intro k
  induction k with
  | zero => intro y; rw [wsO, wsO, wsO, tad_nor]; simp [tad]
  | succ k ih =>
    intro y
    rw [wsO, ih (y + 1), wsO, show y + 1 + (k : Int) = y + ((k + 1 : Nat) : Int) by omega, t_sr.1]
theorem wsO_SB (F : Int → Option Int) : ∀ h : Nat, wsO F h 0 = SB tad none false h F := by
  intro h
  induction h with
  | zero => rfl
  | succ h ih => rw [wsO_end, ih, SB, Int.zero_add]
theorem wsO_nx (c a : Int → Int) (l : Int) (i : Nat) (X : Int → Option Int) : ∀ (m : Nat) (y : Int), wsO (fun b => if vd (okS A c l) (smS A c) (cmS A c) (bdy A b) i a then X b else none) m y = if nxN A c a l i m y < y + m then tad (X (nxN A c a l i m y)) (wsO (fun b => if vd (okS A c l) (smS A c) (cmS A c) (bdy A b) i a then X b else none) (y + m - nxN A c a l i m y - 1).toNat (nxN A c a l i m y + 1)) else none := by
  intro m
  induction m with
  | zero => intro y; rw [wsO, nxN, if_neg (by omega)]
  | succ m ih =>
    intro y
    rw [wsO, nxN]
    cases hv : vd (okS A c l) (smS A c) (cmS A c) (bdy A y) i a
    · simp only [hv, Bool.false_eq_true, if_false]
      rw [ih (y + 1), show y + 1 + (m : Int) = y + ((m + 1 : Nat) : Int) by omega]
      rfl
    · simp only [hv, if_true]
      rw [if_pos (by omega), show (y + ((m + 1 : Nat) : Int) - y - 1).toNat = m by omega]
theorem pwI_at {i : Nat} (h : i ≤ 6) : (15625 : Int) / 5 ^ i = pwI (i + 1) ∧ pwI i = 5 * pwI (i + 1) ∧ 0 < pwI (i + 1) := by
  have : ∀ i : Nat, i < 7 → (15625 : Int) / 5 ^ i = pwI (i + 1) ∧ pwI i = 5 * pwI (i + 1) ∧ 0 < pwI (i + 1) := by decide +kernel
  exact this i (by omega)
theorem pcC_up (a : Int → Int) (k z : Int) : ∀ i : Nat, (i : Int) ≤ k → pcC (upA a k z) i = pcC a i := by
  intro i
  induction i with
  | zero => intro _; rfl
  | succ i ih => intro hi; rw [pcC, pcC, ih (by omega)]; unfold upA; rw [if_neg (by omega)]
theorem pcP_up (c a : Int → Int) (k z : Int) : ∀ i : Nat, (i : Int) ≤ k → pcP A c (upA a k z) i = pcP A c a i := by
  intro i
  induction i with
  | zero => intro _; rfl
  | succ i ih => intro hi; rw [pcP, pcP, ih (by omega)]; unfold upA; rw [if_neg (by omega)]
theorem pcC_rg {a : Int → Int} : ∀ i : Nat, i ≤ 7 → (∀ k : Int, 0 ≤ k → k < i → 0 ≤ a k ∧ a k < 5) → 0 ≤ pcC a i ∧ pcC a i + pwI i ≤ 78125 := by
  intro i
  induction i with
  | zero => intro _ _; unfold pcC; decide
  | succ i ih =>
    intro hi ha
    obtain ⟨h1, h2⟩ := ih (by omega) (fun k k0 k1 => ha k k0 (by omega))
    obtain ⟨-, e2, e3⟩ := pwI_at (i := i) (by omega)
    have := ha i (by omega) (by omega)
    have h3 : 0 ≤ a i * pwI (i + 1) := Int.mul_nonneg (by omega) (by omega)
    have h4 : a i * pwI (i + 1) ≤ 4 * pwI (i + 1) := Int.mul_le_mul_of_nonneg_right (by omega) (by omega)
    rw [pcC]; omega
theorem pcP_rg (hF : Wf A) {c a : Int → Int} : ∀ i : Nat, (∀ k : Int, 0 ≤ k → k < i → 0 ≤ a k ∧ a k < A 0 2 0) → (∀ k : Int, 0 ≤ k → k < i → 0 ≤ c k ∧ c k < A 0 4 0) → 0 ≤ pcP A c a i ∧ pcP A c a i ≤ 999 * i := by
  intro i
  induction i with
  | zero => intro _ _; unfold pcP; decide
  | succ i ih =>
    intro ha hc
    obtain ⟨h1, h2⟩ := ih (fun k k0 k1 => ha k k0 (by omega)) (fun k k0 k1 => hc k k0 (by omega))
    have e1 := ha i (by omega) (by omega)
    have e2 := hc i (by omega) (by omega)
    have := (hF.1.2.2.2.1 (a i) (c i) e1.1 e1.2 e2.1 e2.2).2
    rw [pcP]; push_cast; omega
/-- the digits of a row -/
theorem pcC_dg {a : Int → Int} {n : Nat} (hn : n ≤ 7) (ha : ∀ k : Int, 0 ≤ k → k < n → 0 ≤ a k ∧ a k < 5) {k : Int} (k0 : 0 ≤ k) (k1 : k < n) : pcC a n / 5 ^ (6 - k).toNat % 5 = a k := by
  have gen : ∀ m : Nat, m ≤ n → k < m → ∃ q r : Int, pcC a m = q * 5 ^ (7 - k).toNat + a k * 5 ^ (6 - k).toNat + r ∧ 0 ≤ r ∧ r + pwI m ≤ 5 ^ (6 - k).toNat := by
    intro m
    induction m with
    | zero => intro _ h; omega
    | succ m ih =>
      intro hm hk
      obtain ⟨e1, e2, e3⟩ := pwI_at (i := m) (by omega)
      have am := ha m (by omega) (by omega)
      have h3 : 0 ≤ a m * pwI (m + 1) := Int.mul_nonneg (by omega) (by omega)
      have h4 : a m * pwI (m + 1) ≤ 4 * pwI (m + 1) := Int.mul_le_mul_of_nonneg_right (by omega) (by omega)
      by_cases e : k = m
      · subst e
        have e4 : ∀ m : Nat, m < 7 → pwI (m + 1) = 5 ^ (6 - (m : Int)).toNat := by decide +kernel
        have pre : ∀ i : Nat, i ≤ m → ∃ q : Int, pcC a i = q * 5 ^ (7 - (m : Int)).toNat := by
          intro i
          induction i with
          | zero => intro _; exact ⟨0, by rw [Int.zero_mul]; rfl⟩
          | succ i ihi =>
            intro hi
            obtain ⟨q, hq⟩ := ihi (by omega)
            have e5 : ∀ m : Nat, m < 7 → ∀ i : Nat, i < m → pwI (i + 1) = pwI (i + 1) / 5 ^ (7 - (m : Int)).toNat * 5 ^ (7 - (m : Int)).toNat := by decide +kernel
            have e6 := e5 m (by omega) i (by omega)
            refine ⟨q + a i * (pwI (i + 1) / 5 ^ (7 - (m : Int)).toNat), ?_⟩
            rw [pcC, hq, Int.add_mul, Int.mul_assoc (a i), ← e6]
        obtain ⟨q, hq⟩ := pre m (Nat.le_refl _)
        refine ⟨q, 0, ?_, by omega, ?_⟩
        · rw [pcC, hq, e4 m (by omega), Int.add_zero]
        · rw [e4 m (by omega)]; omega
      · obtain ⟨q, r, h5, h6, h7⟩ := ih (by omega) (by omega)
        refine ⟨q, r + a m * pwI (m + 1), ?_, by omega, by omega⟩
        rw [pcC, h5]; omega
  obtain ⟨q, r, h1, h2, h3⟩ := gen n (Nat.le_refl _) k1
  have hp : ∀ n : Nat, n < 8 → 0 ≤ pwI n ∧ (n < 8 → 0 < pwI n) := by decide +kernel
  have h4 := (hp n (by omega)).2 (by omega)
  have ak := ha k k0 k1
  have h5 : (0 : Int) < 5 ^ (6 - k).toNat := Int.pow_pos (by decide)
  have h6 : (5 : Int) ^ (7 - k).toNat = 5 * 5 ^ (6 - k).toNat := by
    rw [show (7 - k).toNat = (6 - k).toNat + 1 by omega, Int.pow_succ, Int.mul_comm]
  rw [h1, h6, show q * (5 * 5 ^ (6 - k).toNat) + a k * 5 ^ (6 - k).toNat + r = r + (q * 5 + a k) * 5 ^ (6 - k).toNat by rw [Int.add_mul, Int.mul_assoc]; omega, Int.add_mul_ediv_right _ _ (by omega), Int.ediv_eq_zero_of_lt h2 (by omega)]
  omega
/-- a crew told later is taken only where it costs less -/
theorem tad_row {v : Option Int} {P c B : Int} (hv : ∀ x, v = some x → 0 ≤ x ∧ x % 78125 < B) (hB : B ≤ c) (hP : 0 ≤ P) (hc : 0 ≤ c ∧ c < 78125) : tad v (some (P * 78125 + c)) = (if bs v = -1 ∨ P < bs v then some (P * 78125 + c) else v) := by
  cases v with
  | none => rw [if_pos (show bs none = -1 ∨ P < bs none from Or.inl rfl)]; rfl
  | some x =>
    have := hv x rfl
    show some (min x (P * 78125 + c)) = _
    have e : bs (some x) = x / 78125 := rfl
    rw [e]
    split
    · next h => rw [Int.min_eq_right (by omega)]
    · next h => rw [Int.min_eq_left (by omega)]
end MO16P
