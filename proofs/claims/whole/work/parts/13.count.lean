/-! Integer.bitCount -/
theorem and_sp {x m : Nat} (hx : x < 256) (hm : m < 256) (y k : Nat) : (256 * y + x) &&& (256 * k + m) = 256 * (y &&& k) + (x &&& m) := by
  have hxm : x &&& m < 2 ^ 8 := Nat.lt_of_le_of_lt Nat.and_le_left hx
  apply Nat.eq_of_testBit_eq
  intro j
  rw [Nat.testBit_and, show 256 = 2 ^ 8 from rfl, Nat.testBit_two_pow_mul_add _ hx, Nat.testBit_two_pow_mul_add _ hm, Nat.testBit_two_pow_mul_add _ hxm]
  split
  · rw [Nat.testBit_and]
  · rw [Nat.testBit_and]
def b_a (b : Nat) : Nat := (b / 2) &&& 85
def b_c (b : Nat) : Nat := b - b_a b
def b_d (c : Nat) : Nat := (c &&& 51) + ((c / 4) &&& 51)
def b_e (d : Nat) : Nat := (d + d / 16) % 16
def pop8 (b : Nat) : Nat := b % 2 + b / 2 % 2 + b / 4 % 2 + b / 8 % 2 + b / 16 % 2 + b / 32 % 2 + b / 64 % 2 + b / 128 % 2
theorem b_all : ∀ b, b < 256 → b_a b ≤ b ∧ b_d (b_c b) ≤ 68 ∧ b_d (b_c b) % 16 ≤ 4 ∧ b_e (b_d (b_c b)) = pop8 b ∧ pop8 b ≤ 8 := by decide +kernel
theorem b_m1 : ∀ x, x < 256 → ((x % 128 + 128) &&& 85 = (x % 128) &&& 85) ∧ (x &&& 85 = (x % 128) &&& 85) ∧ (x &&& 51 = (x % 64) &&& 51) ∧ x &&& 15 = x % 16 := by decide +kernel
theorem b_m2 : ∀ x, x < 64 → ∀ y, y < 4 → (x + 64 * y) &&& 51 = x &&& 51 := by decide +kernel
theorem and4 {x0 x1 x2 x3 m : Nat} (h0 : x0 < 256) (h1 : x1 < 256) (h2 : x2 < 256) (h3 : x3 < 256) (hm : m < 256) : (256 * (256 * (256 * x3 + x2) + x1) + x0) &&& (256 * (256 * (256 * m + m) + m) + m) = 256 * (256 * (256 * (x3 &&& m) + (x2 &&& m)) + (x1 &&& m)) + (x0 &&& m) := by
  rw [and_sp h0 hm, and_sp h1 hm, and_sp h2 hm]
theorem fin_sum {e0 e1 e2 e3 : Nat} (h0 : e0 ≤ 8) (h1 : e1 ≤ 8) (h2 : e2 ≤ 8) (h3 : e3 ≤ 8) (E : Nat) (hE : E = 256 * (256 * (256 * e3 + e2) + e1) + e0) : E + E / 256 < 4294967296 ∧ ((E + E / 256) + (E + E / 256) / 65536) < 4294967296 ∧ ((E + E / 256) + (E + E / 256) / 65536) % 64 = e0 + e1 + e2 + e3 := by
  have a1 : E / 256 = 256 * (256 * e3 + e2) + e1 := by omega
  have a2 : E + E / 256 = 16777216 * e3 + 65536 * (e2 + e3) + 256 * (e1 + e2) + (e0 + e1) := by omega
  have a3 : (E + E / 256) / 65536 = 256 * e3 + (e2 + e3) := by rw [a2]; clear a1 a2 hE; omega
  rw [a3, a2]
  clear a1 a2 a3 hE
  omega
theorem be_k (d y : Nat) : (d + d / 16 + 16 * y) % 16 = (d + d / 16) % 16 := by omega
theorem pop_nat {b0 b1 b2 b3 : Nat} (h0 : b0 < 256) (h1 : b1 < 256) (h2 : b2 < 256) (h3 : b3 < 256) (n : Nat) (hn : n = 256 * (256 * (256 * b3 + b2) + b1) + b0) :
    (n / 2) &&& 1431655765 ≤ n ∧ ∃ c, c = n - ((n / 2) &&& 1431655765) ∧ c < 4294967296 ∧ ∃ d, d = (c &&& 858993459) + ((c / 4) &&& 858993459) ∧ d + d / 16 < 4294967296 ∧ ∃ e, e = (d + d / 16) &&& 252645135 ∧ e + e / 256 < 4294967296 ∧ ((e + e / 256) + (e + e / 256) / 65536) < 4294967296 ∧ ((e + e / 256) + (e + e / 256) / 65536) % 64 = pop8 b0 + pop8 b1 + pop8 b2 + pop8 b3 := by
  obtain ⟨p0, q0, r0, s0, t0⟩ := b_all b0 h0
  obtain ⟨p1, q1, r1, s1, t1⟩ := b_all b1 h1
  obtain ⟨p2, q2, r2, s2, t2⟩ := b_all b2 h2
  obtain ⟨p3, q3, r3, s3, t3⟩ := b_all b3 h3
  have ea : (n / 2) &&& 1431655765 = 256 * (256 * (256 * b_a b3 + b_a b2) + b_a b1) + b_a b0 := by
    have e : n / 2 = 256 * (256 * (256 * (b3 / 2) + (b2 / 2 + 128 * (b3 % 2))) + (b1 / 2 + 128 * (b2 % 2))) + (b0 / 2 + 128 * (b1 % 2)) := by omega
    rw [e, show (1431655765 : Nat) = 256 * (256 * (256 * 85 + 85) + 85) + 85 from rfl, and4 (by omega) (by omega) (by omega) (by omega) (by omega)]
    have k : ∀ x y : Nat, x < 256 → y < 256 → (x / 2 + 128 * (y % 2)) &&& 85 = b_a x := by
      intro x y hx hy
      unfold b_a
      rw [(b_m1 _ (by omega)).2.1, show (x / 2 + 128 * (y % 2)) % 128 = x / 2 by omega]
    rw [k b0 b1 h0 h1, k b1 b2 h1 h2, k b2 b3 h2 h3]; rfl
  have ec : n - ((n / 2) &&& 1431655765) = 256 * (256 * (256 * b_c b3 + b_c b2) + b_c b1) + b_c b0 := by
    rw [ea, hn]; unfold b_c; omega
  have l0 : b_c b0 < 256 := by unfold b_c; omega
  have l1 : b_c b1 < 256 := by unfold b_c; omega
  have l2 : b_c b2 < 256 := by unfold b_c; omega
  have l3 : b_c b3 < 256 := by unfold b_c; omega
  refine ⟨by rw [ea, hn]; omega, _, rfl, by omega, ?_⟩
  rw [ec]
  generalize b_c b0 = c0 at *
  generalize b_c b1 = c1 at *
  generalize b_c b2 = c2 at *
  generalize b_c b3 = c3 at *
  have ed : ((256 * (256 * (256 * c3 + c2) + c1) + c0) &&& 858993459) + (((256 * (256 * (256 * c3 + c2) + c1) + c0) / 4) &&& 858993459) = 256 * (256 * (256 * b_d c3 + b_d c2) + b_d c1) + b_d c0 := by
    have e : (256 * (256 * (256 * c3 + c2) + c1) + c0) / 4 = 256 * (256 * (256 * (c3 / 4) + (c2 / 4 + 64 * (c3 % 4))) + (c1 / 4 + 64 * (c2 % 4))) + (c0 / 4 + 64 * (c1 % 4)) := by omega
    rw [e, show (858993459 : Nat) = 256 * (256 * (256 * 51 + 51) + 51) + 51 from rfl, and4 l0 l1 l2 l3 (by omega), and4 (by omega) (by omega) (by omega) (by omega) (by omega)]
    rw [b_m2 (c0 / 4) (by omega) (c1 % 4) (by omega), b_m2 (c1 / 4) (by omega) (c2 % 4) (by omega), b_m2 (c2 / 4) (by omega) (c3 % 4) (by omega)]
    unfold b_d; omega
  refine ⟨_, rfl, ?_⟩
  rw [ed]
  generalize b_d c0 = d0 at *
  generalize b_d c1 = d1 at *
  generalize b_d c2 = d2 at *
  generalize b_d c3 = d3 at *
  have hs : (256 * (256 * (256 * d3 + d2) + d1) + d0) + (256 * (256 * (256 * d3 + d2) + d1) + d0) / 16 = 256 * (256 * (256 * (d3 + d3 / 16) + (d2 + d2 / 16 + 16 * (d3 % 16))) + (d1 + d1 / 16 + 16 * (d2 % 16))) + (d0 + d0 / 16 + 16 * (d1 % 16)) := by omega
  have ee : ((256 * (256 * (256 * d3 + d2) + d1) + d0) + (256 * (256 * (256 * d3 + d2) + d1) + d0) / 16) &&& 252645135 = 256 * (256 * (256 * b_e d3 + b_e d2) + b_e d1) + b_e d0 := by
    rw [hs, show (252645135 : Nat) = 256 * (256 * (256 * 15 + 15) + 15) + 15 from rfl, and4 (by omega) (by omega) (by omega) (by omega) (by omega)]
    rw [(b_m1 _ (show d0 + d0 / 16 + 16 * (d1 % 16) < 256 by omega)).2.2.2, (b_m1 _ (show d1 + d1 / 16 + 16 * (d2 % 16) < 256 by omega)).2.2.2, (b_m1 _ (show d2 + d2 / 16 + 16 * (d3 % 16) < 256 by omega)).2.2.2, (b_m1 _ (show d3 + d3 / 16 < 256 by omega)).2.2.2]
    rw [be_k, be_k, be_k]; rfl
  refine ⟨by clear ee ed ec ea s0 s1 s2 s3 p0 p1 p2 p3 t0 t1 t2 t3 hn; omega, _, rfl, ?_⟩
  rw [ee, s0, s1, s2, s3]
  exact fin_sum t0 t1 t2 t3 _ rfl
theorem q_andN {a b : Nat} (ha : a < 4294967296) (hb : b < 4294967296) : Int32.ofInt (q_and (a : Int) (b : Int)) = Int32.ofInt ((a &&& b : Nat) : Int) := by
  unfold q_and
  rw [Int32.ofInt_toInt]
  apply Int32.toBitVec_inj.mp
  show BitVec.ofInt 32 (a : Int) &&& BitVec.ofInt 32 (b : Int) = BitVec.ofInt 32 ((a &&& b : Nat) : Int)
  rw [BitVec.ofInt_natCast, BitVec.ofInt_natCast, BitVec.ofInt_natCast]
  apply BitVec.eq_of_toNat_eq
  rw [BitVec.toNat_and, BitVec.toNat_ofNat, BitVec.toNat_ofNat, BitVec.toNat_ofNat, Nat.mod_eq_of_lt ha, Nat.mod_eq_of_lt hb, Nat.mod_eq_of_lt (Nat.lt_of_le_of_lt Nat.and_le_left ha)]
theorem ush_sh : ∀ k : Nat, k < 32 → (((Int32.ofInt (k : Int)).toUInt32 &&& Int32.toUInt32 31).toBitVec % 32).toNat = k := by decide +kernel
theorem q_ushN {a k : Nat} (ha : a < 4294967296) (hk : k < 32) : Int32.ofInt (q_ush (a : Int) (k : Int)) = Int32.ofInt ((a / 2 ^ k : Nat) : Int) := by
  unfold q_ush
  rw [Int32.ofInt_toInt]
  have e : Int32.ofInt (a : Int) = nI a := Int32.ofInt_eq_ofNat
  rw [e, show Int32.ofInt ((a / 2 ^ k : Nat) : Int) = nI (a / 2 ^ k) from Int32.ofInt_eq_ofNat]
  exact pk_ushrN ha _ k (ush_sh k hk)
theorem q_and_c {x x' y : Int} (h : Int32.ofInt x = Int32.ofInt x') : q_and x y = q_and x' y := by unfold q_and; rw [h]
theorem q_ush_c {x x' y : Int} (h : Int32.ofInt x = Int32.ofInt x') : q_ush x y = q_ush x' y := by unfold q_ush; rw [h]
theorem u_1 {a : Nat} (ha : a < 4294967296) : Int32.ofInt (q_ush (a : Int) 1) = Int32.ofInt ((a / 2 : Nat) : Int) := q_ushN (k := 1) ha (by decide)
theorem u_2 {a : Nat} (ha : a < 4294967296) : Int32.ofInt (q_ush (a : Int) 2) = Int32.ofInt ((a / 4 : Nat) : Int) := q_ushN (k := 2) ha (by decide)
theorem u_4 {a : Nat} (ha : a < 4294967296) : Int32.ofInt (q_ush (a : Int) 4) = Int32.ofInt ((a / 16 : Nat) : Int) := q_ushN (k := 4) ha (by decide)
theorem u_8 {a : Nat} (ha : a < 4294967296) : Int32.ofInt (q_ush (a : Int) 8) = Int32.ofInt ((a / 256 : Nat) : Int) := q_ushN (k := 8) ha (by decide)
theorem u_16 {a : Nat} (ha : a < 4294967296) : Int32.ofInt (q_ush (a : Int) 16) = Int32.ofInt ((a / 65536 : Nat) : Int) := q_ushN (k := 16) ha (by decide)
theorem pop_int {n : Nat} (hn : n < 4294967296) {i1 i2 i3 i4 i5 : Int} (e1 : i1 = n - q_and (q_ush n 1) 1431655765) (e2 : i2 = q_and i1 858993459 + q_and (q_ush i1 2) 858993459) (e3 : i3 = q_and (i2 + q_ush i2 4) 252645135) (e4 : i4 = i3 + q_ush i3 8) (e5 : i5 = i4 + q_ush i4 16) :
    q_and i5 63 = ((pop8 (n % 256) + pop8 (n / 256 % 256) + pop8 (n / 65536 % 256) + pop8 (n / 16777216) : Nat) : Int) := by
  obtain ⟨a1, c, hc, lc, d, hd, ld, e, he, le, lf, hf⟩ := pop_nat (b0 := n % 256) (b1 := n / 256 % 256) (b2 := n / 65536 % 256) (b3 := n / 16777216) (by omega) (by omega) (by omega) (by omega) n (by omega)
  have l1 : n / 2 < 4294967296 := by omega
  have f1 : Int32.ofInt i1 = Int32.ofInt (c : Int) := by
    rw [e1, Int32.ofInt_sub, q_and_c (u_1 hn), show ((1431655765 : Int)) = ((1431655765 : Nat) : Int) from rfl, q_andN (by omega) (by decide), ← Int32.ofInt_sub, hc, Int.natCast_sub a1]
  have lc4 : c / 4 < 4294967296 := by omega
  have f2 : Int32.ofInt i2 = Int32.ofInt (d : Int) := by
    rw [e2, Int32.ofInt_add, q_and_c f1, q_ush_c f1, q_and_c (u_2 lc), show ((858993459 : Int)) = ((858993459 : Nat) : Int) from rfl, q_andN lc (by decide), q_andN lc4 (by decide), ← Int32.ofInt_add, hd, Int.natCast_add]
  have ld2 : d < 4294967296 := by omega
  have f3 : Int32.ofInt i3 = Int32.ofInt (e : Int) := by
    have g1 : Int32.ofInt (i2 + q_ush i2 4) = Int32.ofInt ((d + d / 16 : Nat) : Int) := by
      rw [Int32.ofInt_add, f2, q_ush_c f2, u_4 ld2, ← Int32.ofInt_add]; exact congrArg Int32.ofInt (by omega)
    rw [e3, q_and_c g1, show ((252645135 : Int)) = ((252645135 : Nat) : Int) from rfl, q_andN ld (by decide), he]
  have le2 : e < 4294967296 := by omega
  have f4 : Int32.ofInt i4 = Int32.ofInt ((e + e / 256 : Nat) : Int) := by
    rw [e4, Int32.ofInt_add, f3, q_ush_c f3, u_8 le2, ← Int32.ofInt_add]; exact congrArg Int32.ofInt (by omega)
  have f5 : Int32.ofInt i5 = Int32.ofInt (((e + e / 256) + (e + e / 256) / 65536 : Nat) : Int) := by
    rw [e5, Int32.ofInt_add, f4, q_ush_c f4, u_16 le, ← Int32.ofInt_add]; exact congrArg Int32.ofInt (by omega)
  have f6 : q_and i5 63 = (((e + e / 256) + (e + e / 256) / 65536) &&& 63 : Nat) := by
    have g2 := q_andN (a := (e + e / 256) + (e + e / 256) / 65536) (b := 63) lf (by decide)
    have g3 : q_and i5 63 = q_and (((e + e / 256) + (e + e / 256) / 65536 : Nat) : Int) ((63 : Nat) : Int) := q_and_c f5
    rw [g3]
    have g4 := congrArg Int32.toInt g2
    have g5 : (((e + e / 256) + (e + e / 256) / 65536) &&& 63 : Nat) ≤ 63 := Nat.and_le_right
    rw [q_ti (by unfold q_and; exact q_rg _), q_ti (by omega)] at g4
    exact g4
  rw [f6, show (63 : Nat) = 2 ^ 6 - 1 from rfl, Nat.and_two_pow_sub_one_eq_mod, show (2 : Nat) ^ 6 = 64 from rfl, hf]
theorem mB_tb (p : Int → Bool) {i : Nat} (h : i < 31) : (bv p).toNat / 2 ^ i % 2 = if p i then 1 else 0 := by
  have := bv_get p i
  rw [BitVec.getLsbD, Nat.testBit_eq_decide_div_mod_eq] at this
  simp only [h, decide_true, Bool.true_and] at this
  cases hp : p i
  · rw [hp] at this
    have := of_decide_eq_false this
    simp; omega
  · rw [hp] at this
    have := of_decide_eq_true this
    simp; omega
set_option maxRecDepth 20000 in
theorem cnt_pop (p : Int → Bool) : cnt p = ((pop8 ((bv p).toNat % 256) + pop8 ((bv p).toNat / 256 % 256) + pop8 ((bv p).toNat / 65536 % 256) + pop8 ((bv p).toNat / 16777216) : Nat) : Int) := by
  have hl : (bv p).toNat < 2147483648 := BitVec.toNat_lt_of_msb_false (mB_msb p)
  have t : ∀ i : Nat, i < 31 → (if p i then (1 : Int) else 0) = (((bv p).toNat / 2 ^ i % 2 : Nat) : Int) := by
    intro i hi; rw [mB_tb p hi]; cases p i <;> simp
  generalize hn : (bv p).toNat = n at *
  have e : cnt p = (((n / 2 ^ 0 % 2 : Nat) : Int) + ((n / 2 ^ 1 % 2 : Nat) : Int) + ((n / 2 ^ 2 % 2 : Nat) : Int) + ((n / 2 ^ 3 % 2 : Nat) : Int) + ((n / 2 ^ 4 % 2 : Nat) : Int) + ((n / 2 ^ 5 % 2 : Nat) : Int) + ((n / 2 ^ 6 % 2 : Nat) : Int) + ((n / 2 ^ 7 % 2 : Nat) : Int)) +
      (((n / 2 ^ 8 % 2 : Nat) : Int) + ((n / 2 ^ 9 % 2 : Nat) : Int) + ((n / 2 ^ 10 % 2 : Nat) : Int) + ((n / 2 ^ 11 % 2 : Nat) : Int) + ((n / 2 ^ 12 % 2 : Nat) : Int) + ((n / 2 ^ 13 % 2 : Nat) : Int) + ((n / 2 ^ 14 % 2 : Nat) : Int) + ((n / 2 ^ 15 % 2 : Nat) : Int)) +
      (((n / 2 ^ 16 % 2 : Nat) : Int) + ((n / 2 ^ 17 % 2 : Nat) : Int) + ((n / 2 ^ 18 % 2 : Nat) : Int) + ((n / 2 ^ 19 % 2 : Nat) : Int) + ((n / 2 ^ 20 % 2 : Nat) : Int) + ((n / 2 ^ 21 % 2 : Nat) : Int) + ((n / 2 ^ 22 % 2 : Nat) : Int) + ((n / 2 ^ 23 % 2 : Nat) : Int)) +
      (((n / 2 ^ 24 % 2 : Nat) : Int) + ((n / 2 ^ 25 % 2 : Nat) : Int) + ((n / 2 ^ 26 % 2 : Nat) : Int) + ((n / 2 ^ 27 % 2 : Nat) : Int) + ((n / 2 ^ 28 % 2 : Nat) : Int) + ((n / 2 ^ 29 % 2 : Nat) : Int) + ((n / 2 ^ 30 % 2 : Nat) : Int)) := by
    simp only [← t _ (show 0 < 31 by decide), ← t _ (show 1 < 31 by decide), ← t _ (show 2 < 31 by decide), ← t _ (show 3 < 31 by decide), ← t _ (show 4 < 31 by decide), ← t _ (show 5 < 31 by decide), ← t _ (show 6 < 31 by decide), ← t _ (show 7 < 31 by decide), ← t _ (show 8 < 31 by decide), ← t _ (show 9 < 31 by decide), ← t _ (show 10 < 31 by decide), ← t _ (show 11 < 31 by decide), ← t _ (show 12 < 31 by decide), ← t _ (show 13 < 31 by decide), ← t _ (show 14 < 31 by decide), ← t _ (show 15 < 31 by decide), ← t _ (show 16 < 31 by decide), ← t _ (show 17 < 31 by decide), ← t _ (show 18 < 31 by decide), ← t _ (show 19 < 31 by decide), ← t _ (show 20 < 31 by decide), ← t _ (show 21 < 31 by decide), ← t _ (show 22 < 31 by decide), ← t _ (show 23 < 31 by decide), ← t _ (show 24 < 31 by decide), ← t _ (show 25 < 31 by decide), ← t _ (show 26 < 31 by decide), ← t _ (show 27 < 31 by decide), ← t _ (show 28 < 31 by decide), ← t _ (show 29 < 31 by decide), ← t _ (show 30 < 31 by decide)]
    simp only [cnt, cntN, Int.add_assoc, Int.add_zero]
    rfl
  have d1 : ∀ m k : Nat, n / 2 ^ (8 * m + k) % 2 = n / 2 ^ (8 * m) / 2 ^ k % 2 := fun m k => by rw [Nat.pow_add, Nat.div_div_eq_div_mul]
  have q : ∀ b : Nat, pop8 (b % 256) = b / 2 ^ 0 % 2 + b / 2 ^ 1 % 2 + b / 2 ^ 2 % 2 + b / 2 ^ 3 % 2 + b / 2 ^ 4 % 2 + b / 2 ^ 5 % 2 + b / 2 ^ 6 % 2 + b / 2 ^ 7 % 2 := by
    intro b; unfold pop8; simp only [Nat.reducePow]; omega
  have q3 : n / 16777216 = n / 16777216 % 256 := by omega
  rw [q3, q, q, q, q, e]
  have h1 : n / 256 = n / 2 ^ (8 * 1) := by simp
  have h2 : n / 65536 = n / 2 ^ (8 * 2) := by simp
  have h3 : n / 16777216 = n / 2 ^ (8 * 3) := by simp
  rw [h1, h2, h3, ← d1, ← d1, ← d1, ← d1, ← d1, ← d1, ← d1, ← d1, ← d1, ← d1, ← d1, ← d1, ← d1, ← d1, ← d1, ← d1, ← d1, ← d1, ← d1, ← d1, ← d1, ← d1, ← d1, ← d1]
  have z : n / 2 ^ (8 * 3 + 7) % 2 = 0 := by simp only [Nat.reduceMul, Nat.reduceAdd, Nat.reducePow]; omega
  rw [z]
  simp only [Int.natCast_add, Nat.reduceMul, Nat.reduceAdd, Int.add_assoc, Nat.zero_add, Int.natCast_zero, Int.add_zero]
section BC
variable {D : q_D} {f : q_F} {g h : Int}
theorem ok_bitCount {p : Int → Bool} : OkI D m_ji_bitCount [vi (mB p)] (Zg g h) f (fun x f' => x = cnt p ∧ f' = f) := by
  have hl : (bv p).toNat < 2147483648 := BitVec.toNat_lt_of_msb_false (mB_msb p)
  refine OkI_of (L0 := [vi (mB p)]) mi_ji_bitCount rfl rfl (Nat.le_of_ble_eq_true rfl) (fun C hR => ?_)
  rw [mB_nat]
  refine V_iload_0 d_ji_bitCount_0 ?_
  refine V_iload_0 d_ji_bitCount_1 ?_
  refine V_iconst 1 d_ji_bitCount_2 ?_
  refine V_iushr d_ji_bitCount_3 ?_
  refine V_ldcw 1431655765 d_ji_bitCount_4 co_ji_265 rfl ?_
  refine V_iand d_ji_bitCount_7 ?_
  refine V_isub d_ji_bitCount_8 ?_
  refine V_istore_0 d_ji_bitCount_9 ?_
  obtain ⟨i1, e1⟩ : ∃ y : Int, y = ((bv p).toNat : Int) - q_and (q_ush ((bv p).toNat : Int) 1) 1431655765 := ⟨_, rfl⟩
  rw [← e1]
  refine V_iload_0 d_ji_bitCount_10 ?_
  refine V_ldcw 858993459 d_ji_bitCount_11 co_ji_266 rfl ?_
  refine V_iand d_ji_bitCount_14 ?_
  refine V_iload_0 d_ji_bitCount_15 ?_
  refine V_iconst 2 d_ji_bitCount_16 ?_
  refine V_iushr d_ji_bitCount_17 ?_
  refine V_ldcw 858993459 d_ji_bitCount_18 co_ji_266 rfl ?_
  refine V_iand d_ji_bitCount_21 ?_
  refine V_iadd d_ji_bitCount_22 ?_
  refine V_istore_0 d_ji_bitCount_23 ?_
  obtain ⟨i2, e2⟩ : ∃ y : Int, y = q_and i1 858993459 + q_and (q_ush i1 2) 858993459 := ⟨_, rfl⟩
  rw [← e2]
  refine V_iload_0 d_ji_bitCount_24 ?_
  refine V_iload_0 d_ji_bitCount_25 ?_
  refine V_iconst 4 d_ji_bitCount_26 ?_
  refine V_iushr d_ji_bitCount_27 ?_
  refine V_iadd d_ji_bitCount_28 ?_
  refine V_ldcw 252645135 d_ji_bitCount_29 co_ji_267 rfl ?_
  refine V_iand d_ji_bitCount_32 ?_
  refine V_istore_0 d_ji_bitCount_33 ?_
  obtain ⟨i3, e3⟩ : ∃ y : Int, y = q_and (i2 + q_ush i2 4) 252645135 := ⟨_, rfl⟩
  rw [← e3]
  refine V_iload_0 d_ji_bitCount_34 ?_
  refine V_iload_0 d_ji_bitCount_35 ?_
  refine V_bipush 8 d_ji_bitCount_36 (by decide) ?_
  refine V_iushr d_ji_bitCount_38 ?_
  refine V_iadd d_ji_bitCount_39 ?_
  refine V_istore_0 d_ji_bitCount_40 ?_
  obtain ⟨i4, e4⟩ : ∃ y : Int, y = i3 + q_ush i3 8 := ⟨_, rfl⟩
  rw [← e4]
  refine V_iload_0 d_ji_bitCount_41 ?_
  refine V_iload_0 d_ji_bitCount_42 ?_
  refine V_bipush 16 d_ji_bitCount_43 (by decide) ?_
  refine V_iushr d_ji_bitCount_45 ?_
  refine V_iadd d_ji_bitCount_46 ?_
  refine V_istore_0 d_ji_bitCount_47 ?_
  obtain ⟨i5, e5⟩ : ∃ y : Int, y = i4 + q_ush i4 16 := ⟨_, rfl⟩
  rw [← e5]
  refine V_iload_0 d_ji_bitCount_48 ?_
  refine V_bipush 63 d_ji_bitCount_49 (by decide) ?_
  refine V_iand d_ji_bitCount_51 ?_
  refine V_ireturn d_ji_bitCount_52 (hR _ _ ?_)
  exact ⟨(pop_int (by omega) e1 e2 e3 e4 e5).trans (cnt_pop p).symm, rfl⟩
end BC
