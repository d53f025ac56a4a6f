/-! sets of numbers 0 .. 30 as ints -/
def bvn (p : Int → Bool) : Nat → BitVec 32
  | 0 => 0#32
  | n + 1 => if p n then bvn p n ||| BitVec.twoPow 32 n else bvn p n
theorem bvn_get (p : Int → Bool) : ∀ (n i : Nat), n ≤ 32 → (bvn p n).getLsbD i = (decide (i < n) && p i) := by
  intro n
  induction n with
  | zero => intro i _; simp [bvn]
  | succ n ih =>
    intro i hn
    have h := ih i (by omega)
    unfold bvn
    by_cases hp : p n = true
    · rw [if_pos hp, BitVec.getLsbD_or, h, BitVec.getLsbD_twoPow]
      by_cases e : n = i
      · subst e; simp [hp]; omega
      · simp [e]
        by_cases e2 : i < n
        · simp [e2, show i < n + 1 by omega]
        · simp [e2, show ¬ i < n + 1 by omega]
    · rw [if_neg hp, h]
      by_cases e : i = n
      · subst e; simp; simpa using hp
      · by_cases e2 : i < n
        · simp [e2, show i < n + 1 by omega]
        · simp [e2, show ¬ i < n + 1 by omega]
def bv (p : Int → Bool) : BitVec 32 := bvn p 31
theorem bv_get (p : Int → Bool) (i : Nat) : (bv p).getLsbD i = (decide (i < 31) && p i) := bvn_get p 31 i (by omega)
/-- the number whose bits are p -/
def mB (p : Int → Bool) : Int := (bv p).toInt
theorem bv_ext {x : BitVec 32} {p : Int → Bool} (h : ∀ i, i < 32 → x.getLsbD i = (decide (i < 31) && p i)) : x = bv p :=
  BitVec.eq_of_getLsbD_eq (fun i hi => by rw [h i hi, bv_get])
theorem mB_of (p : Int → Bool) : Int32.ofInt (mB p) = ⟨⟨bv p⟩⟩ := by
  unfold mB
  show (⟨⟨BitVec.ofInt 32 (bv p).toInt⟩⟩ : Int32) = _
  rw [BitVec.ofInt_toInt]
theorem mB_msb (p : Int → Bool) : (bv p).msb = false := by
  rw [BitVec.msb_eq_getLsbD_last, bv_get]; simp
theorem mB_nat (p : Int → Bool) : mB p = ((bv p).toNat : Int) := BitVec.toInt_eq_toNat_of_msb (mB_msb p)
theorem mB_rg (p : Int → Bool) : 0 ≤ mB p ∧ mB p < 2147483648 := by
  rw [mB_nat]
  have := BitVec.toNat_lt_of_msb_false (mB_msb p)
  omega
theorem mB_to {x : BitVec 32} {p : Int → Bool} (h : ∀ i, i < 32 → x.getLsbD i = (decide (i < 31) && p i)) : x.toInt = mB p := by rw [bv_ext h]; rfl
theorem mB_and (p q : Int → Bool) : q_and (mB p) (mB q) = mB (fun i => p i && q i) := by
  unfold q_and
  rw [mB_of, mB_of]
  refine mB_to (x := bv p &&& bv q) (fun i hi => ?_)
  rw [BitVec.getLsbD_and, bv_get, bv_get]
  cases decide (i < 31) <;> simp
theorem mB_or (p q : Int → Bool) : q_or (mB p) (mB q) = mB (fun i => p i || q i) := by
  unfold q_or
  rw [mB_of, mB_of]
  refine mB_to (x := bv p ||| bv q) (fun i hi => ?_)
  rw [BitVec.getLsbD_or, bv_get, bv_get]
  cases decide (i < 31) <;> simp
theorem mB_xor (p q : Int → Bool) : q_xor (mB p) (mB q) = mB (fun i => p i ^^ q i) := by
  unfold q_xor
  rw [mB_of, mB_of]
  refine mB_to (x := bv p ^^^ bv q) (fun i hi => ?_)
  rw [BitVec.getLsbD_xor, bv_get, bv_get]
  cases decide (i < 31) <;> simp
theorem mB_not (q : Int → Bool) : Int32.ofInt (q_xor (mB q) (-1)) = ⟨⟨bv q ^^^ BitVec.allOnes 32⟩⟩ := by
  unfold q_xor
  rw [Int32.ofInt_toInt, mB_of]
  rfl
theorem mB_andn (p q : Int → Bool) : q_and (mB p) (q_xor (mB q) (-1)) = mB (fun i => p i && !q i) := by
  unfold q_and
  rw [mB_of, mB_not]
  refine mB_to (x := bv p &&& (bv q ^^^ BitVec.allOnes 32)) (fun i hi => ?_)
  rw [BitVec.getLsbD_and, BitVec.getLsbD_xor, BitVec.getLsbD_allOnes, bv_get, bv_get]
  by_cases h : i < 31
  · simp [h, hi]
  · simp [h]
theorem mB_nand (p q : Int → Bool) : q_and (q_xor (mB q) (-1)) (mB p) = mB (fun i => p i && !q i) := by
  rw [← mB_andn]; unfold q_and; rw [Int32.and_comm]
theorem mB_sh5 : ∀ n : Nat, n < 32 → ((Int32.ofInt (n : Int)) &&& 31).toBitVec.smod 32 = BitVec.ofNat 32 n ∧ ((Int32.ofInt (n : Int)) &&& 31).toBitVec = BitVec.ofNat 32 n := by decide +kernel
theorem mB_one {i : Int} (h : 0 ≤ i ∧ i < 31) : q_shl 1 i = mB (fun j => decide (j = i)) := by
  obtain ⟨n, rfl⟩ := Int.eq_ofNat_of_zero_le h.1
  unfold q_shl
  refine mB_to (x := ((Int32.ofInt 1) <<< ((Int32.ofInt (n : Int)) &&& 31)).toBitVec) (fun j hj => ?_)
  rw [Int32.toBitVec_shiftLeft, (mB_sh5 n (by omega)).1]
  have e : (Int32.ofInt 1).toBitVec = 1#32 := rfl
  rw [e, BitVec.shiftLeft_eq', BitVec.toNat_ofNat, Nat.mod_eq_of_lt (by omega), BitVec.getLsbD_shiftLeft, BitVec.getLsbD_one]
  by_cases e1 : j = n
  · subst e1; simp; omega
  · by_cases e2 : j < n
    · simp [e2]; omega
    · have e3 : ¬ j - n = 0 := by omega
      have e4 : ¬ (j : Int) = n := by omega
      simp [e2, hj, e3, e4]
theorem mB_eq {p q : Int → Bool} (h : ∀ i, 0 ≤ i → i < 31 → p i = q i) : mB p = mB q := by
  have : bv p = bv q := BitVec.eq_of_getLsbD_eq (fun i hi => by
    rw [bv_get, bv_get]
    by_cases e : i < 31
    · rw [h i (by omega) (by omega)]
    · simp [e])
  unfold mB; rw [this]
theorem mB_inj {p q : Int → Bool} (h : mB p = mB q) {i : Int} (h0 : 0 ≤ i) (h1 : i < 31) : p i = q i := by
  have e : bv p = bv q := BitVec.eq_of_toInt_eq h
  obtain ⟨n, rfl⟩ := Int.eq_ofNat_of_zero_le h0
  have := congrArg (fun x => x.getLsbD n) e
  simp only [bv_get] at this
  simpa [show n < 31 by omega] using this
theorem mB_0 : mB (fun _ => false) = 0 := by decide +kernel
theorem mB_is0 (p : Int → Bool) : mB p = 0 ↔ ∀ i, 0 ≤ i → i < 31 → p i = false := by
  constructor
  · intro h i h0 h1
    exact mB_inj (q := fun _ => false) (h.trans mB_0.symm) h0 h1
  · intro h
    rw [← mB_0]; exact mB_eq h
theorem mB_bit (p : Int → Bool) {i : Int} (h : 0 ≤ i ∧ i < 31) : q_and (q_shr (mB p) i) 1 = if p i then 1 else 0 := by
  obtain ⟨n, rfl⟩ := Int.eq_ofNat_of_zero_le h.1
  have e1 : Int32.ofInt (q_shr (mB p) n) = ⟨⟨(bv p).sshiftRight n⟩⟩ := by
    unfold q_shr
    rw [Int32.ofInt_toInt, mB_of]
    apply Int32.toBitVec_inj.mp
    rw [Int32.toBitVec_shiftRight, (mB_sh5 n (by omega)).1]
    show (bv p).sshiftRight' _ = _
    rw [BitVec.sshiftRight', BitVec.toNat_ofNat, Nat.mod_eq_of_lt (by omega)]
    rfl
  unfold q_and
  rw [e1]
  have e2 : ((⟨⟨(bv p).sshiftRight n⟩⟩ : Int32) &&& Int32.ofInt 1).toBitVec = if p n then 1#32 else 0#32 := by
    show (bv p).sshiftRight n &&& 1#32 = _
    apply BitVec.eq_of_getLsbD_eq
    intro j hj
    rw [BitVec.getLsbD_and, BitVec.getLsbD_one, BitVec.getLsbD_sshiftRight, bv_get]
    by_cases e : j = 0
    · subst e
      rw [if_pos (by omega)]
      have hn : n < 31 := by omega
      cases hp : p n <;> simp [hp, hn]
    · cases hp : p n <;> simp [e]
  show (((⟨⟨(bv p).sshiftRight n⟩⟩ : Int32) &&& Int32.ofInt 1).toBitVec).toInt = _
  rw [e2]
  cases p n <;> rfl
/-- a set grows by one -/
theorem mB_step (p : Int → Bool) {i : Int} (h : 0 ≤ i ∧ i < 31) : mB (fun j => decide (j < i + 1) && p j) = if p i then q_or (mB (fun j => decide (j < i) && p j)) (q_shl 1 i) else mB (fun j => decide (j < i) && p j) := by
  split
  · next hp =>
    rw [mB_one h, mB_or]
    refine mB_eq (fun j h0 h1 => ?_)
    by_cases e : j = i
    · subst e; simp [hp]; omega
    · by_cases e2 : j < i
      · simp [e, e2, show j < i + 1 by omega]
      · simp [e, e2, show ¬ j < i + 1 by omega]
  · next hp =>
    refine mB_eq (fun j h0 h1 => ?_)
    by_cases e : j = i
    · subst e; simp; intro _; simpa using hp
    · by_cases e2 : j < i
      · simp [e2, show j < i + 1 by omega]
      · simp [e2, show ¬ j < i + 1 by omega]
theorem mB_lt0 (p : Int → Bool) : mB (fun j => decide (j < 0) && p j) = 0 := by
  rw [mB_is0]; intro i h0 _; simp; omega
theorem mB_shrrg (x i : Int) : -2147483648 ≤ q_and x i ∧ q_and x i < 2147483648 := q_rg _
theorem q_orrg (x i : Int) : -2147483648 ≤ q_or x i ∧ q_or x i < 2147483648 := q_rg _
theorem mB_ib (p : Int → Bool) {i : Int} (h : 0 ≤ i ∧ i < 31) : q_and (q_shr (mB p) i) 1 = 1 ↔ p i = true := by
  rw [mB_bit p h]; cases p i <;> simp
theorem mB_ib0 (p : Int → Bool) {i : Int} (h : 0 ≤ i ∧ i < 31) : ¬ q_and (q_shr (mB p) i) 1 = 1 ↔ p i = false := by
  rw [mB_bit p h]; cases p i <;> simp
theorem mB_low {n : Int} (h : 0 ≤ n ∧ n ≤ 30) : q_shl 1 n - 1 = mB (fun j => decide (j < n)) := by
  obtain ⟨m, rfl⟩ := Int.eq_ofNat_of_zero_le h.1
  have : ∀ m : Nat, m ≤ 30 → q_shl 1 (m : Int) - 1 = mB (fun j => decide (j < (m : Int))) := by decide +kernel
  exact this m (by omega)
theorem mB_le {p q : Int → Bool} (h : ∀ i, 0 ≤ i → i < 31 → p i = true → q i = true) : q_and (mB p) (mB q) = mB p := by
  rw [mB_and]; refine mB_eq (fun i h0 h1 => ?_)
  have := h i h0 h1
  cases hp : p i <;> simp_all
/-- the least of 0 .. n - 1 with P; n if there is none -/
def srchN : Nat → Int → (Int → Bool) → Int
  | 0, i, _ => i
  | m + 1, i, P => if P i then i else srchN m (i + 1) P
def srch (n : Int) (P : Int → Bool) : Int := srchN n.toNat 0 P
theorem srchN_eq (P : Int → Bool) : ∀ (m : Nat) (i r : Int), i ≤ r → r ≤ i + m → (∀ j, i ≤ j → j < r → P j = false) → (r < i + m → P r = true) → srchN m i P = r := by
  intro m
  induction m with
  | zero => intro i r h1 h2 _ _; unfold srchN; omega
  | succ m ih =>
    intro i r h1 h2 h3 h4
    unfold srchN
    by_cases e : i = r
    · subst e; rw [if_pos (h4 (by omega))]
    · rw [if_neg (by rw [h3 i (by omega) (by omega)]; decide)]
      exact ih (i + 1) r (by omega) (by omega) (fun j a b => h3 j (by omega) b) (fun a => h4 (by omega))
theorem srch_eq {n r : Int} {P : Int → Bool} (h0 : 0 ≤ r) (h1 : r ≤ n) (h2 : ∀ j, 0 ≤ j → j < r → P j = false) (h3 : r < n → P r = true) : srch n P = r := srchN_eq P _ _ _ h0 (by omega) h2 (fun a => h3 (by omega))
theorem srchN_spec (P : Int → Bool) : ∀ (m : Nat) (i : Int), i ≤ srchN m i P ∧ srchN m i P ≤ i + m ∧ (∀ j, i ≤ j → j < srchN m i P → P j = false) ∧ (srchN m i P < i + m → P (srchN m i P) = true) := by
  intro m
  induction m with
  | zero => intro i; unfold srchN; exact ⟨by omega, by omega, fun j a b => by omega, fun a => by omega⟩
  | succ m ih =>
    intro i
    unfold srchN
    by_cases e : P i = true
    · rw [if_pos e]; exact ⟨by omega, by omega, fun j a b => by omega, fun _ => e⟩
    · rw [if_neg e]
      obtain ⟨h1, h2, h3, h4⟩ := ih (i + 1)
      refine ⟨by omega, by omega, fun j a b => ?_, fun a => h4 (by omega)⟩
      by_cases e2 : j = i
      · subst e2; simpa using e
      · exact h3 j (by omega) b
theorem srch_spec {n : Int} (hn : 0 ≤ n) (P : Int → Bool) : 0 ≤ srch n P ∧ srch n P ≤ n ∧ (∀ j, 0 ≤ j → j < srch n P → P j = false) ∧ (srch n P < n → P (srch n P) = true) := by
  obtain ⟨h1, h2, h3, h4⟩ := srchN_spec P n.toNat 0
  exact ⟨h1, by unfold srch; omega, h3, fun a => h4 (by unfold srch at a; omega)⟩
/-- the k-th of 0 .. n - 1 with P (from i on); -1 if there are not so many -/
def nthN : Nat → Int → Int → (Int → Bool) → Int
  | 0, _, _, _ => -1
  | m + 1, i, k, P => if P i then (if k = 0 then i else nthN m (i + 1) (k - 1) P) else nthN m (i + 1) k P
def nth (P : Int → Bool) (k : Int) : Int := nthN 24 0 k P
/-- how many of 0 .. n - 1 (from i on) have P -/
def cntN : Nat → Int → (Int → Bool) → Int
  | 0, _, _ => 0
  | m + 1, i, P => (if P i then 1 else 0) + cntN m (i + 1) P
def cnt (P : Int → Bool) : Int := cntN 31 0 P
theorem cntN_rg (P : Int → Bool) : ∀ (m : Nat) (i : Int), 0 ≤ cntN m i P ∧ cntN m i P ≤ m := by
  intro m
  induction m with
  | zero => intro i; unfold cntN; omega
  | succ m ih => intro i; have := ih (i + 1); unfold cntN; split <;> omega
theorem cnt_rg (P : Int → Bool) : 0 ≤ cnt P ∧ cnt P ≤ 31 := cntN_rg P 31 0
theorem nthN_rg (P : Int → Bool) : ∀ (m : Nat) (i k : Int), 0 ≤ i → nthN m i k P = -1 ∨ (i ≤ nthN m i k P ∧ nthN m i k P < i + m ∧ P (nthN m i k P) = true) := by
  intro m
  induction m with
  | zero => intro i k _; left; rfl
  | succ m ih =>
    intro i k h0
    unfold nthN
    split
    · next hp =>
      split
      · right; exact ⟨by omega, by omega, hp⟩
      · rcases ih (i + 1) (k - 1) (by omega) with h | ⟨h1, h2, h3⟩
        · left; exact h
        · right; exact ⟨by omega, by omega, h3⟩
    · rcases ih (i + 1) k (by omega) with h | ⟨h1, h2, h3⟩
      · left; exact h
      · right; exact ⟨by omega, by omega, h3⟩
theorem q_mulb {a b m n : Int} (ha : 0 ≤ a ∧ a ≤ m) (hb : 0 ≤ b ∧ b ≤ n) : 0 ≤ a * b ∧ a * b ≤ m * n := by
  refine ⟨Int.mul_nonneg ha.1 hb.1, ?_⟩
  have h1 : a * b ≤ m * b := Int.mul_le_mul_of_nonneg_right ha.2 hb.1
  have h2 : m * b ≤ m * n := Int.mul_le_mul_of_nonneg_left hb.2 (by omega)
  omega
theorem cntN_eq {P Q : Int → Bool} : ∀ (m : Nat) (i : Int), (∀ j, i ≤ j → j < i + m → P j = Q j) → cntN m i P = cntN m i Q := by
  intro m
  induction m with
  | zero => intro i _; rfl
  | succ m ih =>
    intro i h
    unfold cntN
    rw [h i (by omega) (by omega), ih (i + 1) (fun j a b => h j (by omega) (by omega))]
theorem cntN_rem {P : Int → Bool} {k : Int} (hk : P k = true) : ∀ (m : Nat) (i : Int), i ≤ k → k < i + m → cntN m i (fun j => P j && !decide (j = k)) = cntN m i P - 1 := by
  intro m
  induction m with
  | zero => intro i h1 h2; omega
  | succ m ih =>
    intro i h1 h2
    unfold cntN
    by_cases e : i = k
    · subst e
      rw [hk]
      simp only [decide_true, Bool.not_true, Bool.and_false, if_true]
      rw [cntN_eq (Q := P) m (i + 1) (fun j a b => by have : ¬ j = i := by omega
                                                      simp [this])]
      simp; omega
    · rw [ih (i + 1) (by omega) (by omega)]
      simp only [e, decide_false, Bool.not_false, Bool.and_true]
      omega
theorem cnt_eq {P Q : Int → Bool} (h : ∀ j, 0 ≤ j → j < 31 → P j = Q j) : cnt P = cnt Q := cntN_eq 31 0 (fun j a b => h j a (by omega))
theorem cntN_zero {P : Int → Bool} : ∀ (m : Nat) (i : Int), (∀ j, i ≤ j → j < i + m → P j = false) → cntN m i P = 0 := by
  intro m
  induction m with
  | zero => intro i _; rfl
  | succ m ih => intro i h; unfold cntN; rw [h i (by omega) (by omega), ih (i + 1) (fun j a b => h j (by omega) (by omega))]; rfl
theorem cntN_and {P Q : Int → Bool} : ∀ (m : Nat) (i : Int), cntN m i P = cntN m i (fun j => P j && Q j) + cntN m i (fun j => P j && !Q j) := by
  intro m
  induction m with
  | zero => intro i; rfl
  | succ m ih =>
    intro i
    unfold cntN
    have e := ih (i + 1)
    generalize cntN m (i + 1) P = a at e ⊢
    generalize cntN m (i + 1) (fun j => P j && Q j) = b at e ⊢
    generalize cntN m (i + 1) (fun j => P j && !Q j) = c at e ⊢
    subst e
    show (if P i then (1 : Int) else 0) + (b + c) = (if (P i && Q i) then 1 else 0) + b + ((if (P i && !Q i) then 1 else 0) + c)
    cases P i <;> cases Q i <;> simp <;> omega
theorem cntN_lt {n : Int} : ∀ (m : Nat) (i : Int), i ≤ n → n ≤ i + m → cntN m i (fun j => decide (j < n)) = n - i := by
  intro m
  induction m with
  | zero => intro i h1 h2; unfold cntN; omega
  | succ m ih =>
    intro i h1 h2
    unfold cntN
    by_cases e : i < n
    · rw [ih (i + 1) (by omega) (by omega)]; simp [e]; omega
    · rw [cntN_zero m (i + 1) (fun j a b => by simp; omega)]; simp [e]; omega
/-- x & (x - 1) -/
theorem nat_low (i m : Nat) : (2 ^ i * (2 * m + 1)) &&& (2 ^ i * (2 * m + 1) - 1) = 2 ^ i * (2 * m) := by
  have hp : 0 < 2 ^ i := Nat.two_pow_pos i
  have e1 : 2 ^ i * (2 * m + 1) - 1 = 2 ^ i * (2 * m) + (2 ^ i - 1) := by
    have : 2 ^ i * (2 * m + 1) = 2 ^ i * (2 * m) + 2 ^ i := by rw [Nat.mul_add, Nat.mul_one]
    omega
  rw [e1]
  apply Nat.eq_of_testBit_eq
  intro j
  have e2 : 2 ^ i * (2 * m + 1) = 2 ^ i * (2 * m + 1) + 0 := rfl
  have e3 : 2 ^ i * (2 * m) = 2 ^ i * (2 * m) + 0 := rfl
  rw [Nat.testBit_and, e2, Nat.testBit_two_pow_mul_add _ hp, Nat.testBit_two_pow_mul_add _ (by omega : 2 ^ i - 1 < 2 ^ i)]
  conv => rhs; rw [e3, Nat.testBit_two_pow_mul_add _ hp]
  by_cases h : j < i
  · simp [h]
  · simp only [h, if_false]
    cases hk : j - i with
    | zero => simp [Nat.testBit_zero]
    | succ k =>
      rw [Nat.testBit_succ, Nat.testBit_succ, show (2 * m + 1) / 2 = m by omega, show 2 * m / 2 = m by omega, Bool.and_self]
theorem mB_low1 {q : Int → Bool} {i : Int} (h0 : 0 ≤ i) (h1 : i < 31) (hi : q i = true) (hl : ∀ j, 0 ≤ j → j < i → q j = false) : q_and (mB q) (mB q - 1) = mB (fun j => q j && !decide (j = i)) := by
  obtain ⟨k, rfl⟩ := Int.eq_ofNat_of_zero_le h0
  have hb : ∀ j : Nat, (bv q).toNat.testBit j = (decide (j < 31) && q j) := fun j => bv_get q j
  have hlt : (bv q).toNat < 2147483648 := BitVec.toNat_lt_of_msb_false (mB_msb q)
  have hdm : (bv q).toNat = 2 ^ k * ((bv q).toNat / 2 ^ k) := by
    have hz : (bv q).toNat % 2 ^ k = 0 := by
      apply Nat.eq_of_testBit_eq
      intro j
      rw [Nat.testBit_mod_two_pow, Nat.zero_testBit]
      by_cases e : j < k
      · rw [hb, hl j (by omega) (by omega)]; simp
      · simp [e]
    have := Nat.div_add_mod (bv q).toNat (2 ^ k)
    omega
  have hodd : (bv q).toNat / 2 ^ k % 2 = 1 := by
    have := hb k
    rw [hi, Nat.testBit_eq_decide_div_mod_eq] at this
    have h2 : decide (k < 31) = true := by simp; omega
    rw [h2] at this
    exact of_decide_eq_true this
  have hn : (bv q).toNat = 2 ^ k * (2 * ((bv q).toNat / 2 ^ k / 2) + 1) := by
    rw [show 2 * ((bv q).toNat / 2 ^ k / 2) + 1 = (bv q).toNat / 2 ^ k by omega]; exact hdm
  have hpos : 0 < (bv q).toNat := by rw [hn]; exact Nat.mul_pos (Nat.two_pow_pos k) (by omega)
  have e1 : Int32.ofInt (mB q - 1) = Int32.ofInt (((bv q).toNat - 1 : Nat) : Int) := by
    rw [mB_nat]; exact congrArg Int32.ofInt (by omega)
  unfold q_and
  rw [e1, mB_of]
  refine mB_to (x := bv q &&& BitVec.ofInt 32 (((bv q).toNat - 1 : Nat) : Int)) (fun j hj => ?_)
  rw [BitVec.getLsbD_and, BitVec.ofInt_natCast, BitVec.getLsbD_ofNat]
  show ((bv q).toNat.testBit j && (decide (j < 32) && ((bv q).toNat - 1).testBit j)) = _
  simp only [hj, decide_true, Bool.true_and]
  rw [← Nat.testBit_and]
  have := nat_low k ((bv q).toNat / 2 ^ k / 2)
  rw [← hn] at this
  rw [this, show 2 ^ k * (2 * ((bv q).toNat / 2 ^ k / 2)) = 2 ^ k * (2 * ((bv q).toNat / 2 ^ k / 2)) + 0 from rfl, Nat.testBit_two_pow_mul_add _ (Nat.two_pow_pos k)]
  by_cases e : j < k
  · simp only [e, if_true, Nat.zero_testBit]
    rw [hl j (by omega) (by omega)]; simp
  · simp only [e, if_false]
    by_cases e2 : j = k
    · subst e2
      simp [Nat.testBit_zero]
    · have e3 : ¬ (j : Int) = (k : Int) := by omega
      simp only [e3, decide_false, Bool.not_false, Bool.and_true]
      rw [← hb]
      obtain ⟨d, hd⟩ : ∃ d, j - k = d + 1 := ⟨j - k - 1, by omega⟩
      rw [hd, Nat.testBit_succ, show 2 * ((bv q).toNat / 2 ^ k / 2) / 2 = (bv q).toNat / 2 ^ k / 2 by omega, ← Nat.testBit_succ, show d.succ = j - k from hd.symm, Nat.testBit_div_two_pow]
      congr 1; omega
