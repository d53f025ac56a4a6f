/-! numbers of the machine by whole numbers -/
theorem q_ti {x : Int} (h : -2147483648 ≤ x ∧ x < 2147483648) : (Int32.ofInt x).toInt = x := by
  rw [Int32.toInt_ofInt]; have e : ((Int32.size : Nat) : Int) = 4294967296 := rfl; simp only [Int.bmod, e]; split <;> omega
theorem q_tl {x : Int} (h : -9223372036854775808 ≤ x ∧ x < 9223372036854775808) : (Int64.ofInt x).toInt = x := by
  rw [Int64.toInt_ofInt]; have e : ((Int64.size : Nat) : Int) = 18446744073709551616 := rfl; simp only [Int.bmod, e]; split <;> omega
theorem q_of (x : Int32) : x = Int32.ofInt x.toInt := (Int32.ofInt_toInt x).symm
theorem q_ofl (x : Int64) : x = Int64.ofInt x.toInt := (Int64.ofInt_toInt x).symm
theorem q_rg (x : Int32) : -2147483648 ≤ x.toInt ∧ x.toInt < 2147483648 := ⟨x.le_toInt, x.toInt_lt⟩
theorem q_lt {x y : Int} (hx : -2147483648 ≤ x ∧ x < 2147483648) (hy : -2147483648 ≤ y ∧ y < 2147483648) : Int32.ofInt x < Int32.ofInt y ↔ x < y := by rw [Int32.lt_iff_toInt_lt, q_ti hx, q_ti hy]
theorem q_le {x y : Int} (hx : -2147483648 ≤ x ∧ x < 2147483648) (hy : -2147483648 ≤ y ∧ y < 2147483648) : Int32.ofInt x ≤ Int32.ofInt y ↔ x ≤ y := by rw [Int32.le_iff_toInt_le, q_ti hx, q_ti hy]
theorem q_eq {x y : Int} (hx : -2147483648 ≤ x ∧ x < 2147483648) (hy : -2147483648 ≤ y ∧ y < 2147483648) : Int32.ofInt x = Int32.ofInt y ↔ x = y := by rw [← Int32.toInt_inj, q_ti hx, q_ti hy]
theorem q_llt {x y : Int} (hx : -9223372036854775808 ≤ x ∧ x < 9223372036854775808) (hy : -9223372036854775808 ≤ y ∧ y < 9223372036854775808) : Int64.ofInt x < Int64.ofInt y ↔ x < y := by rw [Int64.lt_iff_toInt_lt, q_tl hx, q_tl hy]
theorem q_lle {x y : Int} (hx : -9223372036854775808 ≤ x ∧ x < 9223372036854775808) (hy : -9223372036854775808 ≤ y ∧ y < 9223372036854775808) : Int64.ofInt x ≤ Int64.ofInt y ↔ x ≤ y := by rw [Int64.le_iff_toInt_le, q_tl hx, q_tl hy]
theorem q_leq {x y : Int} (hx : -9223372036854775808 ≤ x ∧ x < 9223372036854775808) (hy : -9223372036854775808 ≤ y ∧ y < 9223372036854775808) : Int64.ofInt x = Int64.ofInt y ↔ x = y := by rw [← Int64.toInt_inj, q_tl hx, q_tl hy]
theorem q_0 : (0 : Int32) = Int32.ofInt 0 := rfl
theorem q_nc {x : Int} (h : 0 ≤ x) (h2 : x < 2147483648) : (Int32.ofInt x).toNatClampNeg = x.toNat := by
  show (Int32.ofInt x).toInt.toNat = x.toNat
  rw [q_ti (by omega)]
/-- bitwise operations and shifts, on whole numbers -/
def q_and (x y : Int) : Int := (Int32.ofInt x &&& Int32.ofInt y).toInt
def q_or (x y : Int) : Int := (Int32.ofInt x ||| Int32.ofInt y).toInt
def q_xor (x y : Int) : Int := (Int32.ofInt x ^^^ Int32.ofInt y).toInt
def q_shl (x y : Int) : Int := (Int32.ofInt x <<< (Int32.ofInt y &&& 31)).toInt
def q_shr (x y : Int) : Int := (Int32.ofInt x >>> (Int32.ofInt y &&& 31)).toInt
def q_ush (x y : Int) : Int := ((Int32.ofInt x).toUInt32 >>> ((Int32.ofInt y).toUInt32 &&& Int32.toUInt32 31)).toInt32.toInt
theorem q_i2l {x : Int} (h : -2147483648 ≤ x ∧ x < 2147483648) : (Int32.ofInt x).toInt64 = Int64.ofInt x := by
  rw [← Int64.toInt_inj, Int32.toInt_toInt64, q_ti h, q_tl (by omega)]
theorem q_l2i (x : Int) : (Int64.ofInt x).toInt32 = Int32.ofInt x := by
  first | exact Int64.toInt32_ofInt x | (rw [← Int32.toInt_inj]; simp [Int32.toInt_ofInt, Int64.toInt_toInt32, Int64.toInt_ofInt])
theorem q_div {x y : Int} (hx : 0 ≤ x ∧ x < 2147483648) (hy : 0 < y ∧ y < 2147483648) : Int32.ofInt x / Int32.ofInt y = Int32.ofInt (x / y) := by
  have h0 : 0 ≤ x / y := Int.ediv_nonneg hx.1 (by omega)
  have h1 : x / y ≤ x := Int.ediv_le_self _ hx.1
  rw [← Int32.toInt_inj, lg_idiv_nonneg (by rw [q_ti (by omega)]; exact hx.1) (by rw [q_ti (by omega)]; exact hy.1), q_ti (by omega), q_ti (by omega), q_ti (by omega)]
theorem q_ldiv {x y : Int} (hx : 0 ≤ x ∧ x < 9223372036854775808) (hy : 0 < y ∧ y < 9223372036854775808) : Int64.ofInt x / Int64.ofInt y = Int64.ofInt (x / y) := by
  have h0 : 0 ≤ x / y := Int.ediv_nonneg hx.1 (by omega)
  have h1 : x / y ≤ x := Int.ediv_le_self _ hx.1
  rw [← Int64.toInt_inj, lg_ldiv_nonneg (by rw [q_tl (by omega)]; exact hx.1) (by rw [q_tl (by omega)]; exact hy.1), q_tl (by omega), q_tl (by omega), q_tl (by omega)]
theorem q_mod (x y : Int) : x - x / y * y = x % y := by
  have := Int.emod_add_mul_ediv x y; have e : x / y * y = y * (x / y) := Int.mul_comm _ _; omega
theorem q_rem {x y : Int} (hx : 0 ≤ x ∧ x < 2147483648) (hy : 0 < y ∧ y < 2147483648) : Int32.ofInt x - Int32.ofInt x / Int32.ofInt y * Int32.ofInt y = Int32.ofInt (x % y) := by
  rw [q_div hx hy, ← Int32.ofInt_mul, ← Int32.ofInt_sub, q_mod]
theorem q_lrem {x y : Int} (hx : 0 ≤ x ∧ x < 9223372036854775808) (hy : 0 < y ∧ y < 9223372036854775808) : Int64.ofInt x - Int64.ofInt x / Int64.ofInt y * Int64.ofInt y = Int64.ofInt (x % y) := by
  rw [q_ldiv hx hy, ← Int64.ofInt_mul, ← Int64.ofInt_sub, q_mod]
theorem q_tdiv {x y : Int} (hx : -2147483648 < x ∧ x < 2147483648) (hy : -2147483648 ≤ y ∧ y < 2147483648) : Int32.ofInt x / Int32.ofInt y = Int32.ofInt (x.tdiv y) := by
  rw [← Int32.toInt_inj, Int32.toInt_div, q_ti (by omega), q_ti hy, Int32.toInt_ofInt]
theorem q_ltdiv {x y : Int} : (-9223372036854775808 < x ∧ x < 9223372036854775808) → (-9223372036854775808 ≤ y ∧ y < 9223372036854775808) → Int64.ofInt x / Int64.ofInt y = Int64.ofInt (x.tdiv y) := by
  intro hx hy
  rw [← Int64.toInt_inj, Int64.toInt_div, q_tl (by omega), q_tl hy, Int64.toInt_ofInt]
theorem q_ltmod {x y : Int} : (-9223372036854775808 < x ∧ x < 9223372036854775808) → (-9223372036854775808 ≤ y ∧ y < 9223372036854775808) → Int64.ofInt x - Int64.ofInt x / Int64.ofInt y * Int64.ofInt y = Int64.ofInt (x.tmod y) := by
  intro hx hy
  rw [q_ltdiv hx hy, ← Int64.ofInt_mul, ← Int64.ofInt_sub]
  congr 1
  have := Int.tmod_add_mul_tdiv x y; have e : x.tdiv y * y = y * x.tdiv y := Int.mul_comm _ _; omega
def q_up (f : q_F) (j k x : Int) : q_F := fun a b => if a = j ∧ b = k then x else f a b
theorem q_up_eq (f : q_F) (j k x : Int) : q_up f j k x j k = x := if_pos ⟨rfl, rfl⟩
theorem q_up_ne {f : q_F} {j k x a b : Int} (h : a ≠ j ∨ b ≠ k) : q_up f j k x a b = f a b := if_neg (fun e => h.elim (fun g => g e.1) (fun g => g e.2))
theorem q_up_up (f : q_F) (j k x y : Int) : q_up (q_up f j k x) j k y = q_up f j k y := by
  funext a b; unfold q_up; split <;> simp_all
theorem q_up_self (f : q_F) (j k : Int) : q_up f j k (f j k) = f := by
  funext a b; unfold q_up; split
  · next h => rw [h.1, h.2]
  · rfl
