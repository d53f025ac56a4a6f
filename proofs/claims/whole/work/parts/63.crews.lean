/-! bodies for sightings: sums over rows of bodies, body by body and sighting by sighting, in any semiring -/
def upA (a : Int → Int) (k b : Int) : Int → Int := fun j => if j = k then b else a j
/-- a body can have the k-th one besides what it has among the ones ahead -/
def vd (ok : Int → Int → Bool) (sm : Int → Int → Int → Bool) (cm : Int → Int → Bool) (b : Int) (k : Nat) (a : Int → Int) : Bool := ok b k && allI k 0 (fun j => !(decide (a j = b) && sm b j k) || cm k j)
section SEMI
variable {R : Type} (ad ml : R → R → R) (ze on : R) (pw : Bool)
/-- a sum over the persons' bodies (9) and the shades below h -/
def SB (h : Nat) (F : Int → R) : R := match h with
  | 0 => if pw then F 9 else ze
  | h + 1 => ad (SB h F) (F h)
/-- a sum over the sets between o and o with all of q from k on -/
def SS (q : Int → Bool) (F : (Int → Bool) → R) : Nat → Nat → (Int → Bool) → R
  | 0, _, o => F o
  | m + 1, k, o => if q k then ad (SS q F m (k + 1) (fun j => o j || decide (j = k))) (SS q F m (k + 1) o) else SS q F m (k + 1) o
variable (ok : Int → Int → Bool) (sm : Int → Int → Int → Bool) (cm : Int → Int → Bool) (wt : Int → Int → R)
/-- a sum over the rows of bodies for those of q from k on -/
def SA (h : Nat) (q : Int → Bool) : Nat → Nat → (Int → Int) → R
  | 0, _, _ => on
  | m + 1, k, a => if q k then SB ad ze pw h (fun b => if vd ok sm cm b k a then ml (wt b k) (SA h q m (k + 1) (upA a k b)) else ze) else SA h q m (k + 1) a
/-- one body's part -/
def PT (h : Int) (o : Int → Bool) : Nat → Nat → (Int → Int) → R
  | 0, _, _ => on
  | m + 1, k, a => if o k then (if vd ok sm cm h k a then ml (wt h k) (PT h o m (k + 1) (upA a k h)) else ze) else PT h o m (k + 1) a
variable {ad ml ze on pw ok sm cm wt}
theorem vd_eq {b : Int} {k : Nat} {a a' : Int → Int} (h : ∀ j : Int, 0 ≤ j → j < k → (a j = b ↔ a' j = b)) : vd ok sm cm b k a = vd ok sm cm b k a' := by
  unfold vd
  congr 1
  have : ∀ (p q : Int → Bool), (∀ j, 0 ≤ j → j < (k : Int) → p j = q j) → allI k 0 p = allI k 0 q := by
    intro p q hpq
    have h1 := allI_iff p k 0
    have h2 := allI_iff q k 0
    cases hp : allI k 0 p <;> cases hq : allI k 0 q
    · rfl
    · rw [hq] at h2
      have := h1.mpr (fun j a b => by rw [hpq j a (by omega)]; exact h2.mp rfl j a b)
      rw [hp] at this; exact this
    · rw [hp] at h1
      have := h2.mpr (fun j a b => by rw [← hpq j a (by omega)]; exact h1.mp rfl j a b)
      rw [hq] at this; exact this.symm
    · rfl
  refine this _ _ (fun j j0 j1 => ?_)
  rw [decide_eq_decide.mpr (h j j0 j1)]
theorem SB_eq {h : Nat} {F G : Int → R} (hFG : ∀ b : Int, (b = 9 ∨ (0 ≤ b ∧ b < h)) → F b = G b) : SB ad ze pw h F = SB ad ze pw h G := by
  induction h with
  | zero => unfold SB; rw [hFG 9 (Or.inl rfl)]
  | succ h ih =>
    unfold SB
    rw [ih (fun b hb => hFG b (by omega)), hFG h (by omega)]
theorem upA_iff {a a' : Int → Int} {b : Int} (h : ∀ j : Int, 0 ≤ j → (a j = b ↔ a' j = b)) (k c : Int) : ∀ j : Int, 0 ≤ j → (upA a k c j = b ↔ upA a' k c j = b) := by
  intro j j0
  unfold upA
  by_cases e : j = k
  · rw [if_pos e, if_pos e]
  · rw [if_neg e, if_neg e]; exact h j j0
theorem SA_eq {h : Nat} {q q' : Int → Bool} : ∀ (m k : Nat) (a a' : Int → Int), (∀ j : Int, k ≤ j → j < k + m → q j = q' j) → (∀ b : Int, (b = 9 ∨ (0 ≤ b ∧ b < h)) → ∀ j : Int, 0 ≤ j → (a j = b ↔ a' j = b)) → SA ad ml ze on pw ok sm cm wt h q m k a = SA ad ml ze on pw ok sm cm wt h q' m k a' := by
  intro m
  induction m with
  | zero => intro k a a' _ _; rfl
  | succ m ih =>
    intro k a a' hq ha
    unfold SA
    rw [hq k (by omega) (by omega)]
    split
    · refine SB_eq (fun b hb => ?_)
      rw [vd_eq (a := a) (a' := a') (fun j j0 _ => ha b hb j j0)]
      split
      · rw [ih (k + 1) (upA a k b) (upA a' k b) (fun j j0 j1 => hq j (by omega) (by omega)) (fun c hc => upA_iff (ha c hc) k b)]
      · rfl
    · exact ih (k + 1) a a' (fun j j0 j1 => hq j (by omega) (by omega)) ha
theorem PT_eq {h : Int} {o o' : Int → Bool} : ∀ (m k : Nat) (a a' : Int → Int), (∀ j : Int, k ≤ j → j < k + m → o j = o' j) → (∀ j : Int, 0 ≤ j → (a j = h ↔ a' j = h)) → PT ml ze on ok sm cm wt h o m k a = PT ml ze on ok sm cm wt h o' m k a' := by
  intro m
  induction m with
  | zero => intro k a a' _ _; rfl
  | succ m ih =>
    intro k a a' hq ha
    unfold PT
    rw [hq k (by omega) (by omega), vd_eq (a := a) (a' := a') (fun j j0 _ => ha j j0), ih (k + 1) (upA a k h) (upA a' k h) (fun j j0 j1 => hq j (by omega) (by omega)) (upA_iff ha k h), ih (k + 1) a a' (fun j j0 j1 => hq j (by omega) (by omega)) ha]
theorem SS_eq {q : Int → Bool} {F G : (Int → Bool) → R} : ∀ (m k : Nat) (o : Int → Bool), (∀ o' : Int → Bool, (∀ j : Int, j < k → o' j = o j) → F o' = G o') → SS ad q F m k o = SS ad q G m k o := by
  intro m
  induction m with
  | zero => intro k o h; exact h o (fun _ _ => rfl)
  | succ m ih =>
    intro k o h
    unfold SS
    rw [ih (k + 1) o (fun o' ho => h o' (fun j hj => ho j (by omega))), ih (k + 1) (fun j => o j || decide (j = k)) (fun o' ho => h o' (fun j hj => by rw [ho j (by omega), decide_eq_false (by omega), Bool.or_false]))]
theorem SS_map {q : Int → Bool} {F : (Int → Bool) → R} (e : Int → Bool) : ∀ (m k : Nat) (o : Int → Bool), SS ad q F m k (fun j => o j || e j) = SS ad q (fun o => F (fun j => o j || e j)) m k o := by
  intro m
  induction m with
  | zero => intro k o; rfl
  | succ m ih =>
    intro k o
    unfold SS
    rw [← ih (k + 1) o, ← ih (k + 1) (fun j => o j || decide (j = k))]
    rw [show (fun j => (o j || e j) || decide (j = k)) = (fun j => (o j || decide (j = k)) || e j) from funext fun j => by rw [Bool.or_assoc, Bool.or_comm (e j), ← Bool.or_assoc]]
/-- the laws of a semiring -/
def q_sr (ad ml : R → R → R) (ze on : R) : Prop := (∀ x y z, ad (ad x y) z = ad x (ad y z)) ∧ (∀ x y, ad x y = ad y x) ∧ (∀ x, ad ze x = x) ∧ (∀ x y z, ml (ml x y) z = ml x (ml y z)) ∧ (∀ x y, ml x y = ml y x) ∧ (∀ x, ml ze x = ze) ∧ (∀ x, ml on x = x) ∧ (∀ x y z, ml x (ad y z) = ad (ml x y) (ml x z))
theorem SS_ml (hs : q_sr ad ml ze on) {q : Int → Bool} {F : (Int → Bool) → R} (c : R) : ∀ (m k : Nat) (o : Int → Bool), ml c (SS ad q F m k o) = SS ad q (fun o => ml c (F o)) m k o := by
  have hs' := hs
  obtain ⟨aA, aC, aZ, mA, mC, mZ, mO, mD⟩ := hs'
  intro m
  induction m with
  | zero => intro k o; rfl
  | succ m ih =>
    intro k o
    unfold SS
    split
    · rw [mD, ih, ih]
    · exact ih _ _
theorem SS_ze (hs : q_sr ad ml ze on) {q : Int → Bool} : ∀ (m k : Nat) (o : Int → Bool), SS ad q (fun _ => ze) m k o = ze := by
  have hs' := hs
  obtain ⟨aA, aC, aZ, mA, mC, mZ, mO, mD⟩ := hs'
  intro m
  induction m with
  | zero => intro k o; rfl
  | succ m ih =>
    intro k o
    unfold SS
    split
    · rw [ih, ih, aZ]
    · exact ih _ _
theorem ad4 (hs : q_sr ad ml ze on) (x y z w : R) : ad (ad x y) (ad z w) = ad (ad x z) (ad y w) := by
  have hs' := hs
  obtain ⟨aA, aC, aZ, mA, mC, mZ, mO, mD⟩ := hs'
  rw [aA, aA, ← aA y z w, aC y z, aA z y w]
theorem SS_ad (hs : q_sr ad ml ze on) {q : Int → Bool} {F G : (Int → Bool) → R} : ∀ (m k : Nat) (o : Int → Bool), ad (SS ad q F m k o) (SS ad q G m k o) = SS ad q (fun o => ad (F o) (G o)) m k o := by
  have hs' := hs
  obtain ⟨aA, aC, aZ, mA, mC, mZ, mO, mD⟩ := hs'
  intro m
  induction m with
  | zero => intro k o; rfl
  | succ m ih =>
    intro k o
    unfold SS
    split
    · rw [ad4 hs, ih, ih]
    · exact ih _ _
theorem SB_SS (hs : q_sr ad ml ze on) {q : Int → Bool} {H : Int → (Int → Bool) → R} (m k : Nat) (o : Int → Bool) : ∀ h : Nat, SB ad ze pw h (fun b => SS ad q (H b) m k o) = SS ad q (fun o => SB ad ze pw h (fun b => H b o)) m k o := by
  have hs' := hs
  obtain ⟨aA, aC, aZ, mA, mC, mZ, mO, mD⟩ := hs'
  intro h
  induction h with
  | zero =>
    unfold SB
    cases pw
    · exact (SS_ze hs m k o).symm
    · rfl
  | succ h ih =>
    unfold SB
    rw [ih, SS_ad hs]
theorem SB_ml (hs : q_sr ad ml ze on) {F : Int → R} (c : R) : ∀ h : Nat, ml c (SB ad ze pw h F) = SB ad ze pw h (fun b => ml c (F b)) := by
  have hs' := hs
  obtain ⟨aA, aC, aZ, mA, mC, mZ, mO, mD⟩ := hs'
  intro h
  induction h with
  | zero =>
    unfold SB
    cases pw
    · exact (mC _ _).trans (mZ _)
    · rfl
  | succ h ih =>
    unfold SB
    rw [mD, ih]
/-- one more shade: its part, and the rest among the bodies so far -/
theorem SA_succ (hs : q_sr ad ml ze on) {h : Nat} (h9 : h < 9) (q : Int → Bool) : ∀ (m k : Nat) (a : Int → Int), (∀ j : Int, k ≤ j → a j = -7) →
    SA ad ml ze on pw ok sm cm wt (h + 1) q m k a = SS ad q (fun o => ml (PT ml ze on ok sm cm wt h o m k a) (SA ad ml ze on pw ok sm cm wt h (fun j => q j && !o j) m k a)) m k (fun _ => false) := by
  have hs' := hs
  obtain ⟨aA, aC, aZ, mA, mC, mZ, mO, mD⟩ := hs'
  intro m
  induction m with
  | zero =>
    intro k a ha
    unfold SA SS PT
    exact (mO on).symm
  | succ m ih =>
    intro k a ha
    have hb9 : ∀ b : Int, (b = 9 ∨ (0 ≤ b ∧ b < h)) → ¬ b = h := fun b hb => by omega
    have hne : ∀ b : Int, (b = 9 ∨ (0 ≤ b ∧ b < h)) → ∀ j : Int, 0 ≤ j → (upA a k h j = b ↔ a j = b) := by
      intro b hb j j0
      unfold upA
      by_cases e : j = k
      · rw [if_pos e, ha j (by omega)]; omega
      · rw [if_neg e]
    have hne2 : ∀ b : Int, ¬ b = h → ∀ j : Int, 0 ≤ j → (upA a k b j = h ↔ a j = h) := by
      intro b hb j j0
      unfold upA
      by_cases e : j = k
      · rw [if_pos e, ha j (by omega)]; omega
      · rw [if_neg e]
    have hup : ∀ b : Int, ∀ j : Int, ((k + 1 : Nat) : Int) ≤ j → upA a k b j = -7 := fun b j hj => by
      unfold upA; rw [if_neg (by omega)]; exact ha j (by omega)
    cases hq : q k
    · have e1 : SA ad ml ze on pw ok sm cm wt (h + 1) q (m + 1) k a = SA ad ml ze on pw ok sm cm wt (h + 1) q m (k + 1) a := by rw [SA, hq]; rfl
      rw [e1, ih (k + 1) a (fun j hj => ha j (by omega)), SS, hq]
      refine SS_eq m (k + 1) _ (fun o ho => ?_)
      have hok : o k = false := ho k (by omega)
      rw [PT, hok, SA, hq]; rfl
    · have e1 : SA ad ml ze on pw ok sm cm wt (h + 1) q (m + 1) k a = ad (SB ad ze pw h (fun b => if vd ok sm cm b k a then ml (wt b k) (SA ad ml ze on pw ok sm cm wt (h + 1) q m (k + 1) (upA a k b)) else ze)) (if vd ok sm cm h k a then ml (wt h k) (SA ad ml ze on pw ok sm cm wt (h + 1) q m (k + 1) (upA a k h)) else ze) := by rw [SA, hq, if_pos rfl, SB]
      rw [e1, SS, hq, if_pos rfl, aC]
      congr 1
      · rw [SS_map (fun j => decide (j = k))]
        cases hv : vd ok sm cm h k a
        · rw [if_neg (by decide)]
          refine Eq.trans (SS_ze hs m (k + 1) (fun _ => false) (q := q)).symm ?_
          refine SS_eq m (k + 1) _ (fun o ho => ?_)
          rw [PT, hv]
          simp [mZ]
        · rw [if_pos rfl, ih (k + 1) _ (hup h), SS_ml hs]
          refine SS_eq m (k + 1) _ (fun o ho => ?_)
          have e2 : PT ml ze on ok sm cm wt h (fun j => o j || decide (j = k)) (m + 1) k a = ml (wt h k) (PT ml ze on ok sm cm wt h o m (k + 1) (upA a k h)) := by
            rw [PT, hv]
            simp only [decide_true, Bool.or_true, if_true]
            rw [PT_eq m (k + 1) (upA a k h) (upA a k h) (o' := o) (fun j j0 j1 => by rw [decide_eq_false (by omega), Bool.or_false]) (fun _ _ => Iff.rfl)]
          have e3 : SA ad ml ze on pw ok sm cm wt h (fun j => q j && !(o j || decide (j = k))) (m + 1) k a = SA ad ml ze on pw ok sm cm wt h (fun j => q j && !o j) m (k + 1) (upA a k h) := by
            rw [SA]
            simp only [decide_true, Bool.or_true, Bool.not_true, Bool.and_false, Bool.false_eq_true, if_false]
            exact SA_eq m (k + 1) _ _ (fun j j0 j1 => by rw [decide_eq_false (by omega), Bool.or_false]) (fun b hb j j0 => (hne b hb j j0).symm)
          rw [e2, e3, mA]
      · have e4 : SB ad ze pw h (fun b => if vd ok sm cm b k a then ml (wt b k) (SA ad ml ze on pw ok sm cm wt (h + 1) q m (k + 1) (upA a k b)) else ze) = SB ad ze pw h (fun b => SS ad q (fun o => if vd ok sm cm b k a then ml (wt b k) (ml (PT ml ze on ok sm cm wt h o m (k + 1) (upA a k b)) (SA ad ml ze on pw ok sm cm wt h (fun j => q j && !o j) m (k + 1) (upA a k b))) else ze) m (k + 1) (fun _ => false)) := by
          refine SB_eq (fun b hb => ?_)
          cases hv : vd ok sm cm b k a
          · simp only [Bool.false_eq_true, if_false]; exact (SS_ze hs _ _ _).symm
          · simp only [if_true]; rw [ih (k + 1) _ (hup b), SS_ml hs]
        rw [e4, SB_SS hs]
        refine SS_eq m (k + 1) _ (fun o ho => ?_)
        have hok : o k = false := ho k (by omega)
        have e5 : PT ml ze on ok sm cm wt h o (m + 1) k a = PT ml ze on ok sm cm wt h o m (k + 1) a := by rw [PT, hok]; rfl
        have e6 : SA ad ml ze on pw ok sm cm wt h (fun j => q j && !o j) (m + 1) k a = SB ad ze pw h (fun b => if vd ok sm cm b k a then ml (wt b k) (SA ad ml ze on pw ok sm cm wt h (fun j => q j && !o j) m (k + 1) (upA a k b)) else ze) := by
          rw [SA]; simp only [hok, hq, Bool.not_false, Bool.and_self, if_true]
        rw [e5, e6, SB_ml hs]
        refine SB_eq (fun b hb => ?_)
        cases hv : vd ok sm cm b k a
        · simp only [Bool.false_eq_true, if_false]; rw [mC, mZ]
        · simp only [if_true]
          rw [PT_eq m (k + 1) (upA a k b) a (o' := o) (fun _ _ _ => rfl) (hne2 b (hb9 b hb)), ← mA, ← mA, mC (wt b k)]
/-- the highest first -/
theorem SS_top (hs : q_sr ad ml ze on) {q : Int → Bool} {F : (Int → Bool) → R} : ∀ (m k : Nat) (o : Int → Bool), SS ad q F (m + 1) k o = if q ((k + m : Nat) : Int) then ad (SS ad q F m k (fun j => o j || decide (j = ((k + m : Nat) : Int)))) (SS ad q F m k o) else SS ad q F m k o := by
  intro m
  induction m with
  | zero => intro k o; rfl
  | succ m ih =>
    intro k o
    rw [SS, ih (k + 1), ih (k + 1), show k + 1 + m = k + (m + 1) by omega]
    rw [SS, SS]
    rw [show (fun j => (o j || decide (j = (k : Int))) || decide (j = ((k + (m + 1) : Nat) : Int))) = (fun j => (o j || decide (j = ((k + (m + 1) : Nat) : Int))) || decide (j = (k : Int))) from funext fun j => by rw [Bool.or_assoc, Bool.or_comm (decide (j = (k : Int))), ← Bool.or_assoc]]
    cases hk : q k <;> cases ht : q ((k + (m + 1) : Nat) : Int)
    · rfl
    · rfl
    · rfl
    · simp only [if_true]; exact ad4 hs _ _ _ _
end SEMI
