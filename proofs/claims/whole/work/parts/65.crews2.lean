/-! parts as the class fills them -/
section PART
variable {R : Type} (ml : R → R → R) (ze on : R) (ok : Int → Int → Bool) (sm : Int → Int → Int → Bool) (cm : Int → Int → Bool) (wt : Int → Int → R)
def PC (h : Int) : Nat → (Int → Bool) → R
  | 0, _ => on
  | k + 1, o => if o k then (if ok h k && allI k 0 (fun j => !(o j && sm h j k) || cm k j) then ml (PC h k o) (wt h k) else ze) else PC h k o
end PART
section PART2
variable {R : Type} {ad ml : R → R → R} {ze on : R} {ok : Int → Int → Bool} {sm : Int → Int → Int → Bool} {cm : Int → Int → Bool} {wt : Int → Int → R}
theorem allI_eq {p q : Int → Bool} {k : Nat} (h : ∀ j : Int, 0 ≤ j → j < k → p j = q j) : allI k 0 p = allI k 0 q := by
  have h1 := allI_iff p k 0
  have h2 := allI_iff q k 0
  cases hp : allI k 0 p <;> cases hq : allI k 0 q
  · rfl
  · rw [hq] at h2
    have := h1.mpr (fun j a b => by rw [h j a (by omega)]; exact h2.mp rfl j a b)
    rw [hp] at this; exact this
  · rw [hp] at h1
    have := h2.mpr (fun j a b => by rw [← h j a (by omega)]; exact h1.mp rfl j a b)
    rw [hq] at this; exact this.symm
  · rfl
theorem PC_eq {h : Int} : ∀ (k : Nat) (o o' : Int → Bool), (∀ j : Int, 0 ≤ j → j < k → o j = o' j) → PC ml ze on ok sm cm wt h k o = PC ml ze on ok sm cm wt h k o' := by
  intro k
  induction k with
  | zero => intro o o' _; rfl
  | succ k ih =>
    intro o o' ho
    unfold PC
    rw [ho k (by omega) (by omega), ih o o' (fun j a b => ho j a (by omega)), allI_eq (k := k) (q := fun j => !(o' j && sm h j k) || cm k j) (fun j a b => by rw [ho j a (by omega)])]
theorem PC_PT (hs : q_sr ad ml ze on) {h : Int} (hh : 0 ≤ h) (o : Int → Bool) : ∀ (m k : Nat) (a : Int → Int), (∀ j : Int, 0 ≤ j → (a j = h ↔ (o j = true ∧ j < k))) → PC ml ze on ok sm cm wt h (k + m) o = ml (PC ml ze on ok sm cm wt h k o) (PT ml ze on ok sm cm wt h o m k a) := by
  have hs' := hs
  obtain ⟨aA, aC, aZ, mA, mC, mZ, mO, mD⟩ := hs'
  intro m
  induction m with
  | zero => intro k a _; unfold PT; rw [mC, mO]; rfl
  | succ m ih =>
    intro k a ha
    have hv : vd ok sm cm h k a = (ok h k && allI k 0 (fun j => !(o j && sm h j k) || cm k j)) := by
      unfold vd
      rw [allI_eq (k := k) (q := fun j => !(o j && sm h j k) || cm k j) (fun j j0 j1 => by
        have e : decide (a j = h) = o j := by
          cases ho : o j
          · exact decide_eq_false (fun e => by have := (ha j j0).mp e; rw [ho] at this; cases this.1)
          · exact decide_eq_true ((ha j j0).mpr ⟨ho, j1⟩)
        rw [e])]
    rw [show k + (m + 1) = (k + 1) + m by omega]
    cases ho : o k
    · have e1 : PT ml ze on ok sm cm wt h o (m + 1) k a = PT ml ze on ok sm cm wt h o m (k + 1) a := by rw [PT, ho]; rfl
      rw [e1, ih (k + 1) a (fun j j0 => ?_), PC, ho]
      · rfl
      · rw [ha j j0]
        constructor
        · exact fun e => ⟨e.1, by omega⟩
        · rintro ⟨e1, e2⟩
          refine ⟨e1, ?_⟩
          by_cases e : j = k
          · rw [e, ho] at e1; cases e1
          · omega
    · have e1 : PT ml ze on ok sm cm wt h o (m + 1) k a = if vd ok sm cm h k a then ml (wt h k) (PT ml ze on ok sm cm wt h o m (k + 1) (upA a k h)) else ze := by rw [PT, ho]; rfl
      rw [e1, ih (k + 1) (upA a k h) (fun j j0 => ?_), PC, ho, if_pos rfl, hv]
      · split
        · rw [mA]
        · rw [mZ, mC, mZ]
      · unfold upA
        by_cases e : j = k
        · rw [if_pos e, e, ho]; simp; omega
        · rw [if_neg e, ha j j0]
          constructor
          · exact fun e => ⟨e.1, by omega⟩
          · exact fun e => ⟨e.1, by omega⟩
end PART2
/-! costs: none, or so much; the least one, and sums -/
def tad (x y : Option Int) : Option Int := match x, y with
  | none, y => y
  | some a, none => some a
  | some a, some b => some (min a b)
def tml (x y : Option Int) : Option Int := match x, y with
  | none, _ => none
  | some _, none => none
  | some a, some b => some (a + b)
def enc (x : Option Int) : Int := match x with
  | none => -1
  | some a => a
theorem t_sr : q_sr tad tml none (some 0) := by
  refine ⟨?_, ?_, ?_, ?_, ?_, ?_, ?_, ?_⟩
  · intro x y z; cases x <;> cases y <;> cases z <;> simp [tad, Int.min_assoc]
  · intro x y; cases x <;> cases y <;> simp [tad, Int.min_comm]
  · intro x; cases x <;> simp [tad]
  · intro x y z; cases x <;> cases y <;> cases z <;> simp [tml, Int.add_assoc]
  · intro x y; cases x <;> cases y <;> simp [tml, Int.add_comm]
  · intro x; cases x <;> simp [tml]
  · intro x; cases x <;> simp [tml]
  · intro x y z; cases x <;> cases y <;> cases z <;> simp [tad, tml] <;> omega
theorem i_sr : q_sr (fun x y : Int => x + y) (fun x y : Int => x * y) 0 1 :=
  ⟨Int.add_assoc, Int.add_comm, Int.zero_add, Int.mul_assoc, Int.mul_comm, Int.zero_mul, Int.one_mul, Int.mul_add⟩
/-- what a body may have, of the k-th chosen ones c -/
def okS (A : q_As) (c : Int → Int) (l : Int) (b k : Int) : Bool := if b = 9 then true else decide (l ≤ A 8 b (c k)) && decide (mB (fun t => held A b t && !can A (c k) t) = 0)
def smS (A : q_As) (c : Int → Int) (b j k : Int) : Bool := if b = 9 then decide (A 7 (c j) 0 = A 7 (c k) 0) else true
def cmS (A : q_As) (c : Int → Int) (k j : Int) : Bool := can A (c k) (c j)
def wtS (A : q_As) (c : Int → Int) (w : Int) (b k : Int) : Option Int := if w = 0 then some 0 else some (A 9 b (c k) * 78125 + b * (15625 / 5 ^ k.toNat))
def PCt (A : q_As) (c : Int → Int) (l w h : Int) (k : Nat) (o : Int → Bool) : Option Int := PC tml none (some 0) (okS A c l) (smS A c) (cmS A c) (wtS A c w) h k o
section HS9
variable {D : q_D} {f f' : q_F} {A : q_As} {g h : Int}
/-- the chosen ones lie in the class's cells -/
def q_cho (f : q_F) (A : q_As) (c : Int → Int) (n : Nat) : Prop := f 45 1 = n ∧ n ≤ 8 ∧ (∀ k : Int, 0 ≤ k → k < n → f 46 k = c k) ∧ ∀ k : Int, 0 ≤ k → k < n → 0 ≤ c k ∧ c k < A 0 4 0
theorem ok_chosenAmong (hW : Wg A) {c : Int → Int} {n : Nat} (hc : q_cho f A c n) {x : Int} (d : Int → Bool) (hd : ∀ i, 0 ≤ i → i < A 0 4 0 → q_and (q_shr x i) 1 = if d i then 1 else 0) : OkI D m_cr_chosenAmong [vr D 45, vi x] (Zg g h) f (fun y f' => y = mB (fun k => decide (k < n) && d (c k)) ∧ f' = f) := by
  have hn := hW.1
  obtain ⟨h1, h2, h3, h4⟩ := hc
  refine OkI_of (L0 := [vr D 45, vi x, vu, vu]) mi_cr_chosenAmong rfl rfl (Nat.le_of_ble_eq_true rfl) (fun C hR => ?_)
  have loop : ∀ (m : Nat) (k y : Int), k + m = n → 0 ≤ k → y = mB (fun j => decide (j < k) && d (c j)) → V D C m_cr_chosenAmong 4 [vr D 45, vi x, vi y, vi k] [] (Zg g h) f := by
    intro m
    induction m with
    | zero =>
      intro k y hm h0 hy
      refine V_iload_3 d_cr_chosenAmong_4 ?_
      refine V_aload_0 d_cr_chosenAmong_5 ?_
      refine V_getI d_cr_chosenAmong_6 fl_cr_30 is_cr ?_
      rw [h1]
      refine V_icmp_ge 33 d_cr_chosenAmong_9 (by decide) (by omega) (by omega) (fun c9 => ?_) (fun c9 => by omega)
      refine V_iload_2 d_cr_chosenAmong_33 ?_
      refine V_ireturn d_cr_chosenAmong_34 (hR _ _ ?_)
      exact ⟨by rw [hy, show k = n by omega], rfl⟩
    | succ m ih =>
      intro k y hm h0 hy
      have bk := h4 k h0 (by omega)
      refine V_iload_3 d_cr_chosenAmong_4 ?_
      refine V_aload_0 d_cr_chosenAmong_5 ?_
      refine V_getI d_cr_chosenAmong_6 fl_cr_30 is_cr ?_
      rw [h1]
      refine V_icmp_ge 33 d_cr_chosenAmong_9 (by decide) (by omega) (by omega) (fun c9 => by omega) (fun c9 => ?_)
      refine V_iload_2 d_cr_chosenAmong_12 ?_
      refine V_iload_1 d_cr_chosenAmong_13 ?_
      refine V_aload_0 d_cr_chosenAmong_14 ?_
      refine V_getR d_cr_chosenAmong_15 fl_cr_11 is_cr r_cr_chosen ?_
      refine V_iload_3 d_cr_chosenAmong_18 ?_
      refine V_iald d_cr_chosenAmong_19 is_cr_chosen (by omega) (by omega) ?_
      rw [h3 k h0 (by omega)]
      refine V_ishr d_cr_chosenAmong_20 ?_
      refine V_iconst 1 d_cr_chosenAmong_21 ?_
      refine V_iand d_cr_chosenAmong_22 ?_
      rw [hd _ bk.1 bk.2]
      refine V_iload_3 d_cr_chosenAmong_23 ?_
      refine V_ishl d_cr_chosenAmong_24 ?_
      refine V_ior d_cr_chosenAmong_25 ?_
      refine V_istore_2 d_cr_chosenAmong_26 rfl ?_
      refine V_iinc_3 d_cr_chosenAmong_27 rfl ?_
      refine V_goto 4 d_cr_chosenAmong_30 (by decide) ?_
      refine ih _ _ (by omega) (by omega) ?_
      rw [mB_step _ (by omega), hy]
      cases hdk : d (c k)
      · simp only [Bool.false_eq_true, if_false]
        rw [show q_shl 0 k = mB (fun _ => false) by
          rw [mB_0]
          obtain ⟨j, rfl⟩ := Int.eq_ofNat_of_zero_le h0
          have : ∀ j : Nat, j < 32 → q_shl 0 j = 0 := by decide +kernel
          exact this j (by omega), mB_or]
        exact mB_eq (fun i _ _ => by simp)
      · simp only [if_true]
  refine V_iconst 0 d_cr_chosenAmong_0 ?_
  refine V_istore_2 d_cr_chosenAmong_1 rfl ?_
  refine V_iconst 0 d_cr_chosenAmong_2 ?_
  refine V_istore_3 d_cr_chosenAmong_3 rfl ?_
  exact loop n _ _ (by omega) (by decide) (mB_lt0 _).symm
end HS9
