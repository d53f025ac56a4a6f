/-! longest chains: along the hours; whoever can be at the next one can be at all -/
/-- of the first m by hour, of p and of c: how long a chain that ends there at most is -/
def ahd (A : q_As) (p : Int → Bool) : Nat → (Int → Bool) → Int
  | 0, _ => 0
  | m + 1, c => if p (A 16 m 0) && c (A 16 m 0) then max (ahd A p m c) (1 + ahd A p m (can A (A 16 m 0))) else ahd A p m c
def lng (A : q_As) (p : Int → Bool) : Int := ahd A p (A 0 4 0).toNat (fun _ => true)
/-- the chain that is first by numbers -/
def flN (A : q_As) (w : Int) : Nat → Int → (Int → Bool) → (Int → Bool)
  | 0, _, p => p
  | m + 1, i, p => if p i then (if lng A (fun t => p t && can A i t) = w then flN A w m (i + 1) (fun t => p t && can A i t) else flN A w m (i + 1) (less p i)) else flN A w m (i + 1) p
def flg (A : q_As) (p : Int → Bool) : Int → Bool := flN A (lng A p) (A 0 4 0).toNat 0 p
def S_chain (A : q_As) (p k : Int) : Int := if 0 ≤ p ∧ p < A 0 1 0 then (if k = -1 then lng A (own A p) else nth (flg A (own A p)) k) else -1
def few (A : q_As) (p : Int) : Int := cnt (own A p) - lng A (own A p)
def fwN (A : q_As) : Nat → Int → Int → Int
  | 0, _, a => a
  | m + 1, i, a => fwN A m (i + 1) (a + few A i)
def S_shades (A : q_As) (p : Int) : Int := if p = -1 then fwN A (A 0 1 0).toNat 0 0 else if 0 ≤ p ∧ p < A 0 1 0 then few A p else -1
def S_must (A : q_As) (s : Int) : Int := if (0 ≤ s ∧ s < A 0 4 0) ∧ A 11 s 0 = -1 then (if lng A (fun t => own A (A 7 s 0) t && can A s t) < lng A (own A (A 7 s 0)) then 0 else if lng A (less (own A (A 7 s 0)) s) < lng A (own A (A 7 s 0)) then 2 else 1) else -1
section CHAIN
variable {A : q_As}
theorem ahd_rg (p : Int → Bool) : ∀ (m : Nat) (c : Int → Bool), 0 ≤ ahd A p m c ∧ ahd A p m c ≤ m := by
  intro m
  induction m with
  | zero => intro c; unfold ahd; omega
  | succ m ih =>
    intro c
    have h1 := ih c
    have h2 := ih (can A (A 16 m 0))
    unfold ahd
    split <;> omega
theorem lng_rg (hW : Wg A) (p : Int → Bool) : 0 ≤ lng A p ∧ lng A p ≤ A 0 4 0 := by
  have hn := hW.1
  have := ahd_rg (A := A) p (A 0 4 0).toNat (fun _ => true)
  unfold lng; omega
theorem ahd_eq {p q : Int → Bool} (hW : Wg A) (h : ∀ t, 0 ≤ t → t < A 0 4 0 → p t = q t) : ∀ (m : Nat) (c : Int → Bool), (m : Int) ≤ A 0 4 0 → ahd A p m c = ahd A q m c := by
  intro m
  induction m with
  | zero => intro c _; rfl
  | succ m ih =>
    intro c hm
    have hb := hW.o1 (i := (m : Int)) (by omega) (by omega)
    unfold ahd
    rw [h _ hb.1 hb.2, ih c (by omega), ih _ (by omega)]
theorem lng_eq {p q : Int → Bool} (hW : Wg A) (h : ∀ t, 0 ≤ t → t < A 0 4 0 → p t = q t) : lng A p = lng A q := by
  have hn := hW.1
  exact ahd_eq hW h _ _ (by omega)
/-- two by two, among all -/
def clq (A : q_As) (q : Int → Bool) : Prop := ∀ s t, 0 ≤ s → s < A 0 4 0 → q s = true → 0 ≤ t → t < A 0 4 0 → q t = true → can A s t = true
/-- one of the first m by hour -/
def pre (A : q_As) : Nat → Int → Bool
  | 0, _ => false
  | m + 1, t => decide (t = A 16 m 0) || pre A m t
theorem pre_iff : ∀ (m : Nat) (t : Int), pre A m t = true ↔ ∃ i : Nat, i < m ∧ A 16 i 0 = t := by
  intro m
  induction m with
  | zero => intro t; unfold pre; simp
  | succ m ih =>
    intro t
    unfold pre
    rw [Bool.or_eq_true, decide_eq_true_iff, ih]
    constructor
    · rintro (h | ⟨i, h1, h2⟩)
      · exact ⟨m, by omega, h.symm⟩
      · exact ⟨i, by omega, h2⟩
    · rintro ⟨i, h1, h2⟩
      by_cases e : i = m
      · subst e; exact Or.inl h2.symm
      · exact Or.inr ⟨i, by omega, h2⟩
theorem ord_inj (hW : Wg A) {i j : Nat} (hi : (i : Int) < A 0 4 0) (hj : (j : Int) < A 0 4 0) (h : A 16 i 0 = A 16 j 0) : i = j := by
  rcases Nat.lt_trichotomy i j with e | e | e
  · have := hW.o2 (i := (i : Int)) (j := (j : Int)) (by omega) (by omega) hj
    rw [h] at this; omega
  · exact e
  · have := hW.o2 (i := (j : Int)) (j := (i : Int)) (by omega) (by omega) hi
    rw [h] at this; omega
theorem pre_last (hW : Wg A) {m : Nat} (hm : (m : Int) < A 0 4 0) : pre A m (A 16 m 0) = false := by
  cases h : pre A m (A 16 m 0)
  · rfl
  · obtain ⟨i, h1, h2⟩ := (pre_iff m _).mp h
    have := ord_inj hW (by omega) hm h2
    omega
/-- no chain of a set is longer -/
theorem ahd_most (hW : Wg A) (p q : Int → Bool) (hq : clq A q) (hp : ∀ t, 0 ≤ t → t < A 0 4 0 → q t = true → p t = true) : ∀ (m : Nat) (c : Int → Bool), (m : Int) ≤ A 0 4 0 → (∀ t, 0 ≤ t → t < A 0 4 0 → q t = true → pre A m t = true → c t = true) → cnt (fun t => q t && pre A m t) ≤ ahd A p m c := by
  have hn := hW.1
  intro m
  induction m with
  | zero =>
    intro c _ _
    have : cnt (fun t => q t && pre A 0 t) = 0 := cntN_zero 31 0 (fun j _ _ => by unfold pre; simp)
    rw [this]; unfold ahd; omega
  | succ m ih =>
    intro c hm hc
    have hb := hW.o1 (i := (m : Int)) (by omega) (by omega)
    have hl := pre_last hW (m := m) (by omega)
    have hc' : ∀ t, 0 ≤ t → t < A 0 4 0 → q t = true → pre A m t = true → c t = true := fun t t0 t1 ht hpt => hc t t0 t1 ht (by unfold pre; rw [hpt]; simp)
    unfold ahd
    cases hs : q (A 16 m 0)
    · have e : cnt (fun t => q t && pre A (m + 1) t) = cnt (fun t => q t && pre A m t) := cnt_eq (fun t _ _ => by
        rw [pre]
        by_cases e : t = A 16 m 0
        · rw [e, hs]; rfl
        · rw [decide_eq_false e]; rfl)
      have h1 := ih c (by omega) hc'
      rw [e]
      split <;> omega
    · have h2 := ih (can A (A 16 m 0)) (by omega) (fun t t0 t1 ht _ => hq _ t hb.1 hb.2 hs t0 t1 ht)
      have e : cnt (fun t => (q t && pre A (m + 1) t) && !decide (t = A 16 m 0)) = cnt (fun t => q t && pre A (m + 1) t) - 1 := cntN_rem (k := A 16 m 0) (by rw [hs, pre]; simp) 31 0 hb.1 (by omega)
      have e2 : cnt (fun t => (q t && pre A (m + 1) t) && !decide (t = A 16 m 0)) = cnt (fun t => q t && pre A m t) := cnt_eq (fun t _ _ => by
        rw [pre]
        by_cases e : t = A 16 m 0
        · rw [e, hl]; simp
        · rw [decide_eq_false e]; simp)
      rw [hp _ hb.1 hb.2 hs, hc _ hb.1 hb.2 hs (by rw [pre]; simp), Bool.and_self, if_pos rfl]
      omega
theorem ahd_succ (p : Int → Bool) (m : Nat) (c : Int → Bool) : ahd A p (m + 1) c = if p (A 16 m 0) && c (A 16 m 0) then max (ahd A p m c) (1 + ahd A p m (can A (A 16 m 0))) else ahd A p m c := rfl
theorem ahd_at (p : Int → Bool) : ∀ (m : Nat) (c : Int → Bool), ahd A p m c = 0 ∨ ∃ j : Nat, j < m ∧ p (A 16 j 0) = true ∧ c (A 16 j 0) = true ∧ ahd A p m c = 1 + ahd A p j (can A (A 16 j 0)) := by
  intro m
  induction m with
  | zero => intro c; left; rfl
  | succ m ih =>
    intro c
    rw [ahd_succ]
    cases hpc : p (A 16 m 0) && c (A 16 m 0)
    · rw [if_neg (by decide)]
      rcases ih c with h | ⟨j, h1, h2⟩
      · exact Or.inl h
      · exact Or.inr ⟨j, by omega, h2⟩
    · rw [if_pos rfl]
      rw [Bool.and_eq_true] at hpc
      right
      by_cases hmx : ahd A p m c ≤ 1 + ahd A p m (can A (A 16 m 0))
      · exact ⟨m, by omega, hpc.1, hpc.2, by omega⟩
      · have h0 := (ahd_rg (A := A) p m (can A (A 16 m 0))).1
        rcases ih c with h | ⟨j, h1, h2, h3, h4⟩
        · omega
        · exact ⟨j, by omega, h2, h3, by omega⟩
/-- by hour, whoever can be at the next one can be at all -/
theorem can_tr (hW : Wg A) {i j k : Nat} (h1 : i < j) (h2 : j < k) (hk : (k : Int) < A 0 4 0) (h3 : can A (A 16 i 0) (A 16 j 0) = true) (h4 : can A (A 16 j 0) (A 16 k 0) = true) : can A (A 16 i 0) (A 16 k 0) = true := by
  have o1 := hW.o2 (i := (i : Int)) (j := (j : Int)) (by omega) (by omega) (by omega)
  have o2 := hW.o2 (i := (j : Int)) (j := (k : Int)) (by omega) (by omega) (by omega)
  have bi := hW.o1 (i := (i : Int)) (by omega) (by omega)
  have bj := hW.o1 (i := (j : Int)) (by omega) (by omega)
  have bk := hW.o1 (i := (k : Int)) (by omega) (by omega)
  obtain ⟨-, pi, -⟩ := hW.2.1 _ bi.1 bi.2
  obtain ⟨-, pj, -⟩ := hW.2.1 _ bj.1 bj.2
  obtain ⟨-, pk, -⟩ := hW.2.1 _ bk.1 bk.2
  have tri := (hW.2.2.1 _ _ pi.1 pi.2 pj.1 pj.2).2.2.2 _ pk.1 pk.2
  unfold can near iabs at *
  rw [decide_eq_true_iff] at *
  split at h3 <;> split at h4 <;> split <;> omega
/-- there is a chain as long -/
theorem ahd_ex (hW : Wg A) (p : Int → Bool) : ∀ (N i : Nat), i < N → (i : Int) < A 0 4 0 → p (A 16 i 0) = true → ∃ q : Int → Bool, clq A q ∧ (∀ t, q t = true → p t = true ∧ pre A (i + 1) t = true) ∧ q (A 16 i 0) = true ∧ cnt q = 1 + ahd A p i (can A (A 16 i 0)) := by
  have hn := hW.1
  intro N
  induction N with
  | zero => intro i h; omega
  | succ N ih =>
    intro i hiN hi hp
    have bi := hW.o1 (i := (i : Int)) (by omega) hi
    have add : ∀ q : Int → Bool, (∀ t, q t = true → pre A i t = true) → cnt (fun t => q t || decide (t = A 16 i 0)) = cnt q + 1 := by
      intro q hq
      have hno : q (A 16 i 0) = false := by
        cases h : q (A 16 i 0)
        · rfl
        · have := hq _ h; rw [pre_last hW hi] at this; cases this
      have e : cnt (fun t => (q t || decide (t = A 16 i 0)) && !decide (t = A 16 i 0)) = cnt (fun t => q t || decide (t = A 16 i 0)) - 1 := cntN_rem (k := A 16 i 0) (by simp) 31 0 bi.1 (by omega)
      have e2 : cnt (fun t => (q t || decide (t = A 16 i 0)) && !decide (t = A 16 i 0)) = cnt q := cnt_eq (fun t _ _ => by
        by_cases e : t = A 16 i 0
        · rw [e, hno]; simp
        · rw [decide_eq_false e]; simp)
      omega
    rcases ahd_at (A := A) p i (can A (A 16 i 0)) with h0 | ⟨j, j1, j2, j3, j4⟩
    · refine ⟨fun t => decide (t = A 16 i 0), fun s t s0 s1 hs t0 t1 ht => ?_, fun t ht => ?_, by simp, ?_⟩
      · rw [decide_eq_true_iff] at hs ht
        rw [hs, ht]; exact can_refl hW bi
      · rw [decide_eq_true_iff] at ht
        rw [ht]; exact ⟨hp, by rw [pre]; simp⟩
      · have := add (fun _ => false) (fun t ht => by cases ht)
        simp only [Bool.false_or] at this
        rw [this, h0, show cnt (fun _ => false) = 0 from cntN_zero 31 0 (fun _ _ _ => rfl)]; rfl
    · obtain ⟨q, q1, q2, q3, q4⟩ := ih j (by omega) (by omega) j2
      have bj := hW.o1 (i := (j : Int)) (by omega) (by omega)
      have hpre : ∀ t, q t = true → pre A i t = true := fun t ht => by
        obtain ⟨k, k1, k2⟩ := (pre_iff (j + 1) t).mp (q2 t ht).2
        exact (pre_iff i t).mpr ⟨k, by omega, k2⟩
      have hcan : ∀ t, 0 ≤ t → t < A 0 4 0 → q t = true → can A t (A 16 i 0) = true := by
        intro t t0 t1 ht
        obtain ⟨k, k1, k2⟩ := (pre_iff (j + 1) t).mp (q2 t ht).2
        have hji : can A (A 16 j 0) (A 16 i 0) = true := by rw [can_symm hW bj bi]; exact j3
        by_cases e : k = j
        · rw [← k2, e]; exact hji
        · have h1 := q1 t _ t0 t1 ht bj.1 bj.2 q3
          rw [← k2] at h1 ⊢
          exact can_tr hW (show k < j by omega) j1 hi h1 hji
      refine ⟨fun t => q t || decide (t = A 16 i 0), fun s t s0 s1 hs t0 t1 ht => ?_, fun t ht => ?_, by simp, ?_⟩
      · rw [Bool.or_eq_true, decide_eq_true_iff] at hs ht
        rcases hs with hs | hs <;> rcases ht with ht | ht
        · exact q1 s t s0 s1 hs t0 t1 ht
        · rw [ht]; exact hcan s s0 s1 hs
        · rw [hs, can_symm hW bi ⟨t0, t1⟩]; exact hcan t t0 t1 ht
        · rw [hs, ht]; exact can_refl hW bi
      · rw [Bool.or_eq_true, decide_eq_true_iff] at ht
        rcases ht with ht | ht
        · exact ⟨(q2 t ht).1, by rw [pre, hpre t ht]; simp⟩
        · rw [ht]; exact ⟨hp, by rw [pre]; simp⟩
      · rw [add q hpre, q4, j4]; omega
theorem pre_all (hW : Wg A) {t : Int} (t0 : 0 ≤ t) (t1 : t < A 0 4 0) : pre A (A 0 4 0).toNat t = true := by
  obtain ⟨i, i0, i1, i2⟩ := hW.o3 t0 t1
  exact (pre_iff _ t).mpr ⟨i.toNat, by omega, by rw [Int.toNat_of_nonneg i0]; exact i2⟩
theorem lng_most (hW : Wg A) {p q : Int → Bool} (hq : clq A q) (hp : ∀ t, q t = true → p t = true ∧ t < A 0 4 0) : cnt q ≤ lng A p := by
  have hn := hW.1
  have h := ahd_most hW p q hq (fun t _ _ ht => (hp t ht).1) (A 0 4 0).toNat (fun _ => true) (by omega) (fun _ _ _ _ _ => rfl)
  have e : cnt (fun t => q t && pre A (A 0 4 0).toNat t) = cnt q := cnt_eq (fun t t0 _ => by
    cases ht : q t
    · rfl
    · rw [pre_all hW t0 (hp t ht).2]; rfl)
  unfold lng; omega
theorem lng_ex (hW : Wg A) (p : Int → Bool) : ∃ q : Int → Bool, clq A q ∧ (∀ t, q t = true → p t = true ∧ 0 ≤ t ∧ t < A 0 4 0) ∧ cnt q = lng A p := by
  have hn := hW.1
  rcases ahd_at (A := A) p (A 0 4 0).toNat (fun _ => true) with h | ⟨j, j1, j2, -, j4⟩
  · refine ⟨fun _ => false, fun s t _ _ h => ?_, fun t h => ?_, ?_⟩
    · cases h
    · cases h
    · unfold lng; rw [h]; exact cntN_zero 31 0 (fun _ _ _ => rfl)
  · obtain ⟨q, q1, q2, q3, q4⟩ := ahd_ex hW p (j + 1) j (by omega) (by omega) j2
    refine ⟨q, q1, fun t ht => ⟨(q2 t ht).1, ?_⟩, by unfold lng; omega⟩
    obtain ⟨k, k1, k2⟩ := (pre_iff _ t).mp (q2 t ht).2
    have := hW.o1 (i := (k : Int)) (by omega) (by omega)
    omega
theorem cnt_le {p q : Int → Bool} (h : ∀ t, 0 ≤ t → t < 31 → p t = true → q t = true) : cnt p ≤ cnt q := by
  have h1 : cnt q = cnt (fun j => q j && p j) + cnt (fun j => q j && !p j) := cntN_and 31 0
  have h2 := cnt_rg (fun j => q j && !p j)
  have h3 : cnt (fun j => q j && p j) = cnt p := cnt_eq (fun t t0 t1 => by
    cases hp : p t
    · simp
    · rw [h t t0 t1 hp]; rfl)
  omega
/-- among a set's longest chains there is one with a sighting or one without it -/
theorem lng_cut (hW : Wg A) (p : Int → Bool) (i : Int) : lng A p ≤ max (lng A (fun t => p t && can A i t)) (lng A (less p i)) := by
  have hn := hW.1
  obtain ⟨q, q1, q2, q3⟩ := lng_ex hW p
  cases hi : q i
  · have := lng_most hW (p := less p i) q1 (fun t ht => ⟨by
      unfold less; rw [(q2 t ht).1]
      by_cases e : t = i
      · rw [e, hi] at ht; cases ht
      · rw [decide_eq_false e]; rfl, (q2 t ht).2.2⟩)
    omega
  · have bi := (q2 i hi).2
    have := lng_most hW (p := fun t => p t && can A i t) q1 (fun t ht => ⟨by
      rw [(q2 t ht).1, q1 i t bi.1 bi.2 hi (q2 t ht).2.1 (q2 t ht).2.2 ht]; rfl, (q2 t ht).2.2⟩)
    omega
theorem lng_mono (hW : Wg A) {p q : Int → Bool} (h : ∀ t, q t = true → p t = true) : lng A q ≤ lng A p := by
  obtain ⟨r, r1, r2, r3⟩ := lng_ex hW q
  have := lng_most hW (p := p) r1 (fun t ht => ⟨h t (r2 t ht).1, (r2 t ht).2.2⟩)
  omega
/-- what the search keeps -/
theorem flN_ok (hW : Wg A) {w : Int} : ∀ (m : Nat) (i : Int) (p : Int → Bool), i + m = A 0 4 0 → 0 ≤ i → (∀ t, p t = true → t < A 0 4 0) → lng A p = w → (∀ s t, 0 ≤ s → s < i → 0 ≤ t → p s = true → p t = true → can A s t = true) → clq A (flN A w m i p) ∧ (∀ t, flN A w m i p t = true → t < A 0 4 0) ∧ lng A (flN A w m i p) = w := by
  intro m
  induction m with
  | zero =>
    intro i p hm h0 hp hl hc
    unfold flN
    exact ⟨fun s t s0 s1 hs t0 _ ht => hc s t s0 (by omega) t0 hs ht, hp, hl⟩
  | succ m ih =>
    intro i p hm h0 hp hl hc
    unfold flN
    cases hpi : p i
    · rw [if_neg (by decide)]
      refine ih (i + 1) p (by omega) (by omega) hp hl (fun s t s0 hs t0 h1 h2 => ?_)
      by_cases e : s = i
      · rw [e, hpi] at h1; cases h1
      · exact hc s t s0 (by omega) t0 h1 h2
    · rw [if_pos rfl]
      by_cases e : lng A (fun t => p t && can A i t) = w
      · rw [if_pos e]
        refine ih (i + 1) _ (by omega) (by omega) (fun t ht => hp t (by rw [Bool.and_eq_true] at ht; exact ht.1)) e (fun s t s0 hs t0 h1 h2 => ?_)
        rw [Bool.and_eq_true] at h1 h2
        by_cases e2 : s = i
        · rw [e2]; exact h2.2
        · exact hc s t s0 (by omega) t0 h1.1 h2.1
      · rw [if_neg e]
        have h1 := lng_cut hW p i
        have h2 := lng_mono hW (p := p) (q := fun t => p t && can A i t) (fun t ht => by rw [Bool.and_eq_true] at ht; exact ht.1)
        have h3 := lng_mono hW (p := p) (q := less p i) (fun t ht => by unfold less at ht; rw [Bool.and_eq_true] at ht; exact ht.1)
        refine ih (i + 1) _ (by omega) (by omega) (fun t ht => hp t (by unfold less at ht; rw [Bool.and_eq_true] at ht; exact ht.1)) (by omega) (fun s t s0 hs t0 h1 h2 => ?_)
        unfold less at h1 h2
        rw [Bool.and_eq_true] at h1 h2
        by_cases e2 : s = i
        · rw [e2] at h1; simp at h1
        · exact hc s t s0 (by omega) t0 h1.1 h2.1
theorem flg_cnt (hW : Wg A) {p : Int → Bool} (hp : ∀ t, p t = true → t < A 0 4 0) : cnt (flg A p) = lng A p := by
  have hn := hW.1
  obtain ⟨h1, h2, h3⟩ := flN_ok hW (w := lng A p) (A 0 4 0).toNat 0 p (by omega) (by decide) hp rfl (fun s t s0 hs _ h1 _ => by omega)
  have h4 : cnt (flg A p) ≤ lng A (flg A p) := lng_most hW (p := flg A p) h1 (fun t ht => ⟨ht, h2 t ht⟩)
  obtain ⟨q, q1, q2, q3⟩ := lng_ex hW (flg A p)
  have h5 := cnt_le (p := q) (q := flg A p) (fun t _ _ ht => (q2 t ht).1)
  have h6 : lng A (flg A p) = lng A p := h3
  omega
end CHAIN
