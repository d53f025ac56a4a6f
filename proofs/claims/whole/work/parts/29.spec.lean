/-! what the calls answer: weights, sums, picks -/
def bodies (A : q_As) (w b : Int) : Int → Bool := if w = 0 then own A b else held A b
def wset (A : q_As) (s sh : Int) : Int → Bool := if sh = -1 then own A (A 7 s 0) else held A sh
def wgt (A : q_As) (s sh : Int) : Int := if mB (fun t => wset A s sh t && !can A s t) = 0 then (if sh = -1 then 1000 else A 8 sh s) else 0
def whN (A : q_As) (s : Int) : Nat → Int → Int → Int
  | 0, _, a => a
  | m + 1, i, a => whN A s m (i + 1) (a + wgt A s i)
def whAll (A : q_As) (s : Int) : Int := whN A s (A 0 2 0).toNat 0 (wgt A s (-1))
def S_whose (A : q_As) (s sh : Int) : Int := if (0 ≤ s ∧ s < A 0 4 0) ∧ (-1 ≤ sh ∧ sh < A 0 2 0) then (if whAll A s = 0 then 0 else 1000 * wgt A s sh / whAll A s) else -1
def bodyOk (A : q_As) (p t w b : Int) : Bool := decide (mB (fun s => bodies A w b s && !near A p t s) = 0)
def nB (A : q_As) (w : Int) : Int := if w = 0 then A 0 1 0 else A 0 2 0
def S_could (A : q_As) (p t w : Int) : Int := if (0 ≤ p ∧ p < A 0 3 0) ∧ 0 ≤ t ∧ t ≤ 99 then mB (fun b => decide (b < nB A w) && bodyOk A p t w b) else -1
def clset (A : q_As) (s t : Int) : Bool := decide (s < t) && (own A (A 7 s 0) t && !can A s t)
def clN (A : q_As) : Nat → Int → Int → Int
  | 0, _, _ => -1
  | m + 1, s, k => if A 11 s 0 = -1 then (if nth (clset A s) k = -1 then clN A m (s + 1) (k - cnt (clset A s)) else 100 * s + nth (clset A s) k) else clN A m (s + 1) k
def S_clash (A : q_As) (k : Int) : Int := clN A (A 0 4 0).toNat 0 k
def prN (A : q_As) (sh : Int) (p : Int → Bool) : Nat → Int → Int → Int
  | 0, _, a => a
  | m + 1, i, a => prN A sh p m (i + 1) (if p i then a + A 9 sh i else a)
def lpN (A : q_As) (sh : Int) (p : Int → Bool) : Nat → Int → Int → Int
  | 0, _, a => a
  | m + 1, i, a => lpN A sh p m (i + 1) (if p i = true ∧ (a = -1 ∨ A 8 sh i < a) then A 8 sh i else a)
def fsN (A : q_As) (p : Int → Bool) : Nat → Int → Int → Int
  | 0, _, a => a
  | m + 1, i, a => fsN A p m (i + 1) (if p i = true ∧ (a = -1 ∨ A 7 i 2 < A 7 a 2) then i else a)
def ltN (A : q_As) (p : Int → Bool) : Nat → Int → Int → Int
  | 0, _, a => a
  | m + 1, i, a => ltN A p m (i + 1) (if p i = true ∧ (a = -1 ∨ A 7 a 2 < A 7 i 2) then i else a)
def first (A : q_As) (p : Int → Bool) : Int := fsN A p (A 0 4 0).toNat 0 (-1)
def last (A : q_As) (p : Int → Bool) : Int := ltN A p (A 0 4 0).toNat 0 (-1)
def along (A : q_As) (p : Int → Bool) : Int := if first A p = -1 then 0 else A 7 (last A p) 2 - A 7 (first A p) 2
def S_shade (A : q_As) (sh w : Int) : Int := if 0 ≤ sh ∧ sh < A 0 2 0 then (if w = 0 then cnt (held A sh) else if w = 1 then prN A sh (held A sh) (A 0 4 0).toNat 0 0 else if w = 2 then first A (held A sh) else if w = 3 then along A (held A sh) else if w = 4 then lpN A sh (held A sh) (A 0 4 0).toNat 0 (-1) else -1) else -1
def cpN (A : q_As) (p : Int → Bool) : Nat → Int → Int → Int
  | 0, _, b => b
  | m + 1, i, b => cpN A p m (i + 1) (if p i = true ∧ (b = -1 ∨ A 10 i 0 < A 10 b 0) then i else b)
def cheapest (A : q_As) (p : Int → Bool) : Int := cpN A p (A 0 2 0).toNat 0 (-1)
def less (p : Int → Bool) (x : Int) : Int → Bool := fun j => p j && !decide (j = x)
/-- the rest of a crowd: m more from p, the next is number i, fees so far -/
def cwN (A : q_As) (k : Int) : Nat → Int → (Int → Bool) → Int → Int
  | 0, _, _, a => a
  | m + 1, i, p, a => if i = k then cheapest A p else cwN A k m (i + 1) (less p (cheapest A p)) (a + A 10 (cheapest A p) 0)
def S_crowd (A : q_As) (p t n k : Int) : Int := if ((0 ≤ p ∧ p < A 0 3 0) ∧ 0 ≤ t ∧ t ≤ 99) ∧ (1 ≤ n ∧ n ≤ 5) ∧ (-1 ≤ k ∧ k < n) ∧ n ≤ cnt (fun b => decide (b < A 0 2 0) && bodyOk A p t 1 b) then cwN A k n.toNat 0 (fun b => decide (b < A 0 2 0) && bodyOk A p t 1 b) 0 else -1
/-- a draw -/
def rnd (x : Int) : Int := (1103515245 * x + 12345) % 2147483648
/-- a day's sightings from s on: drawn number, gains, found out -/
def dsN (A : q_As) : Nat → Int → Int → Int → Int → Int × Int × Int
  | 0, _, x, a, b => (x, a, b)
  | m + 1, s, x, a, b => if A 11 s 0 = -1 then dsN A m (s + 1) x a b else if rnd x / 64 % 1000 < A 8 (A 11 s 0) s then dsN A m (s + 1) (rnd x) (a + A 9 (A 11 s 0) s * A 0 6 0 / 100) b else dsN A m (s + 1) (rnd x) (a - A 9 (A 11 s 0) s) (b + 1)
def dyN (A : q_As) : Nat → Int → Int → Int → Int × Int × Int
  | 0, x, a, b => (x, a, b)
  | m + 1, x, a, b => dyN A m (dsN A (A 0 4 0).toNat 0 x a b).1 (dsN A (A 0 4 0).toNat 0 x a b).2.1 (dsN A (A 0 4 0).toNat 0 x a b).2.2
def S_days (A : q_As) (n w : Int) : Int := if (1 ≤ n ∧ n ≤ 100) ∧ (0 ≤ w ∧ w ≤ 1) then (if w = 0 then (dyN A n.toNat (A 13 0 4) 0 0).2.1 else (dyN A n.toNat (A 13 0 4) 0 0).2.2) else -1000000000
def A_drawn (A : q_As) (x : Int) : q_As := fun c i j => if c = 13 ∧ i = 0 ∧ j = 4 then x else A c i j
def A_days (A : q_As) (n w : Int) : q_As := if (1 ≤ n ∧ n ≤ 100) ∧ (0 ≤ w ∧ w ≤ 1) then A_drawn A (dyN A n.toNat (A 13 0 4) 0 0).1 else A
def avN (A : q_As) : Nat → Int → Int → Int
  | 0, _, a => a
  | m + 1, s, a => avN A m (s + 1) (if A 11 s 0 = -1 then a else a + A 9 (A 11 s 0) s * A 0 6 0 / 100 * A 8 (A 11 s 0) s - A 9 (A 11 s 0) s * (1000 - A 8 (A 11 s 0) s))
def S_average (A : q_As) : Int := avN A (A 0 4 0).toNat 0 0
section CAN
variable {A : q_As}
theorem iabs_neg (x : Int) : iabs (-x) = iabs x := by unfold iabs; split <;> split <;> omega
theorem can_symm (hW : Wg A) {s t : Int} (hs : 0 ≤ s ∧ s < A 0 4 0) (ht : 0 ≤ t ∧ t < A 0 4 0) : can A s t = can A t s := by
  obtain ⟨-, p1, -⟩ := hW.2.1 s hs.1 hs.2
  obtain ⟨-, p2, -⟩ := hW.2.1 t ht.1 ht.2
  unfold can near
  rw [(hW.2.2.1 _ _ p1.1 p1.2 p2.1 p2.2).2.1, ← iabs_neg, show -(A 7 s 2 - A 7 t 2) = A 7 t 2 - A 7 s 2 by omega]
theorem can_refl (hW : Wg A) {s : Int} (hs : 0 ≤ s ∧ s < A 0 4 0) : can A s s = true := by
  obtain ⟨-, p1, -⟩ := hW.2.1 s hs.1 hs.2
  unfold can near
  rw [(hW.2.2.1 _ _ p1.1 p1.2 p1.1 p1.2).2.2.1]
  unfold iabs; simp
end CAN
theorem q_b1 {x : Int} {P : Prop} (h : (x = 1 ∧ P) ∨ (x = 0 ∧ ¬ P)) (hx : ¬ x = 0) : P := by
  rcases h with h | h
  · exact h.2
  · exact absurd h.1 hx
theorem q_b0 {x : Int} {P : Prop} (h : (x = 1 ∧ P) ∨ (x = 0 ∧ ¬ P)) (hx : x = 0) : ¬ P := by
  rcases h with h | h
  · omega
  · exact h.2
theorem q_no {P Q : Prop} (h1 : ¬ P) (h2 : ¬ Q) : ¬ (P ∨ Q) := fun h => h.elim h1 h2
