/-! the class reads statements: traits, rules -/
def sTr3 (T : Int → Int) (N t : Int) (S : q_F) (p e : Int) : q_R (q_F × Int × Int) := sNum S T N (8 + t) 1 0 100 p e
def sTr2 (T : Int → Int) (N t : Int) (S : q_F) (p e : Int) : q_R (q_F × Int × Int) := rb (sNum S T N (8 + t) 0 0 100 p e) (fun s => sTr3 T N t s.1 s.2.1 s.2.2)
/-- one trait -/
def sTr1 (T : Int → Int) (N t : Int) (S : q_F) (p e : Int) : q_R (q_F × Int × Int) := rb (sNew S T N 0 p e) (fun s => sTr2 T N t s.1 s.2.1 s.2.2)
def sTr (T : Int → Int) (N : Int) : Nat → Int → q_F → Int → Int → q_R (q_F × Int × Int)
  | 0, _, S, p, e => .inr (S, p, e)
  | m + 1, t, S, p, e => rb (sTr1 T N t S p e) (fun s => if t < 5 ∧ lk T N s.2.1 = 44 then sTr T N m (t + 1) s.1 (sk T N (s.2.1 + 1)) s.2.2 else .inr s)
/-- sums and tests of rules, with enough steps -/
def rq (T : Int → Int) (N : Int) (mode : Nat) (p e : Int) : q_R (List Int × Int × Int) := match rd T N 20000 mode 0 p e with
  | none => .inl (0, 0)
  | some r => r
section FUEL
variable {T : Int → Int} {N : Int}
theorem ob_ne {x : q_O} {k : List Int → Int → Int → q_O} (h1 : ¬ x = none) (h2 : ∀ c q d, x = some (.inr (c, q, d)) → ¬ k c q d = none) : ¬ ob x k = none := by
  match x, h1, h2 with
  | none, h1, _ => exact absurd rfl h1
  | some (.inl e), _, _ => intro h; cases h
  | some (.inr (c, q, d)), _, h2 => exact h2 c q d rfl
theorem os_ne {x : q_R (Int × Int)} {k : Int → Int → q_O} (h2 : ∀ q d, x = .inr (q, d) → ¬ k q d = none) : ¬ os x k = none := by
  match x, h2 with
  | .inl e, _ => intro h; cases h
  | .inr (q, d), h2 => exact h2 q d rfl
theorem ite_ne {c : Prop} [Decidable c] {a b : q_O} (h1 : c → ¬ a = none) (h2 : ¬ c → ¬ b = none) : ¬ (if c then a else b) = none := by
  split
  · next hc => exact h1 hc
  · next hc => exact h2 hc
def rk (m : Nat) : Int := if m = 1 then 1 else if m = 3 then 2 else if m = 5 then 3 else if m = 6 then 4 else if m = 8 then 5 else 0
theorem some_ne {r : q_R (List Int × Int × Int)} : ¬ (some r : q_O) = none := by intro h; cases h
theorem rd_fuel : ∀ (n mode : Nat) (o p e : Int), mode ≤ 9 → p ≤ N → 12 * (N - p) + rk mode < n → ¬ rd T N n mode o p e = none := by
  intro n
  induction n with
  | zero => intro mode o p e hm hp hf; unfold rk at hf; split at hf <;> (try split at hf) <;> (try split at hf) <;> (try split at hf) <;> (try split at hf) <;> omega
  | succ n ih =>
    intro mode o p e hm hp hf
    have two : ∀ (m1 m2 : Nat) (p e : Int) (g : List Int → List Int → List Int), m1 ≤ 9 → m2 ≤ 9 → (m1 = 0 ∨ m1 = 1 ∨ m1 = 3 ∨ m1 = 5 ∨ m1 = 6 ∨ m1 = 8) → rk m2 = 0 → p ≤ N → 12 * (N - p) + rk m1 < n → ¬ ob (rd T N n m1 o p e) (fun c q r => ob (rd T N n m2 o q r) (fun c2 q r => some (.inr (g c c2, q, r)))) = none := by
      intro m1 m2 p e g h1 h2 hm1 hrk hp hf
      refine ob_ne (ih m1 o p e h1 hp hf) (fun c q d hx => ob_ne (ih m2 o q d h2 ?_ ?_) (fun _ _ _ _ => some_ne))
      · exact (rd_len n m1 o p e c q d hp hx).2.1
      · have := rd_len n m1 o p e c q d hp hx
        have h3 := this.2.2 hm1
        have h4 : 0 ≤ rk m1 := by unfold rk; split <;> (try split) <;> (try split) <;> (try split) <;> (try split) <;> omega
        rw [hrk]; omega
    match mode, hm, hf with
    | 0, _, hf =>
      have hf : 12 * (N - p) + 0 < (n : Int) + 1 := by exact_mod_cast hf
      rw [rd_0]
      unfold rdPart
      refine ite_ne (fun hg => ?_) (fun _ => ite_ne (fun hl => ite_ne (fun _ => ?_) (fun _ => some_ne)) (fun _ => ite_ne (fun _ => some_ne) (fun _ => ite_ne (fun hw => ite_ne (fun hl => ite_ne (fun _ => ?_) (fun _ => some_ne)) (fun _ => some_ne)) (fun _ => some_ne))))
      · unfold rdNum
        cases l_num T N 0 9999 p e with
        | inl e0 => exact some_ne
        | inr s => exact some_ne
      · have h1 := lk_of (by decide) hl
        have h2 := sk_ge (T := T) h1.1
        exact ob_ne (ih 3 _ _ _ (by decide) h2.2 (by show _ + (2 : Int) < _; omega)) (fun c q d _ => os_ne (fun _ _ _ => some_ne))
      · have h0 := wd_ge (T := T) (N := N) (p := p) (e := e) hp (by omega)
        have h1 := lk_of (by decide) hl
        have h2 := sk_ge (T := T) h1.1
        refine ob_ne (ih 3 _ _ _ (by decide) h2.2 (by show _ + (2 : Int) < _; omega)) (fun c q d hx => os_ne (fun q2 d2 hq => ob_ne (ih 3 _ _ _ (by decide) ?_ ?_) (fun _ _ _ _ => os_ne (fun _ _ _ => some_ne))))
        · exact (l_sign_some (by decide) hq).2.2.2.2.2
        · have h3 := rd_len n 3 _ _ _ _ _ _ h2.2 hx
          have h4 := l_sign_some (by decide) hq
          show _ + (2 : Int) < _
          omega
    | 1, _, hf =>
      have hf : 12 * (N - p) + 1 < (n : Int) + 1 := by exact_mod_cast hf
      exact two 0 2 p e (fun c c2 => c ++ c2) (by decide) (by decide) (by decide) rfl hp (by show _ + (0 : Int) < _; omega)
    | 2, _, hf =>
      have hf : 12 * (N - p) + 0 < (n : Int) + 1 := by exact_mod_cast hf
      refine ite_ne (a := ob (rd T N n 0 o (sk T N (p + 1)) e) (fun c q r => ob (rd T N n 2 o q r) (fun c2 q r => some (.inr (c ++ ((if lk T N p = 42 then 3 else 4) :: c2), q, r))))) (fun hs => ?_) (fun _ => some_ne)
      have hpN : p < N := by rcases hs with hs | hs <;> exact (lk_of (by decide) hs).1
      have h2 := sk_ge (T := T) hpN
      exact two 0 2 _ e (fun c c2 => c ++ ((if lk T N p = 42 then 3 else 4) :: c2)) (by decide) (by decide) (by decide) rfl h2.2 (by show _ + (0 : Int) < _; omega)
    | 3, _, hf =>
      have hf : 12 * (N - p) + 2 < (n : Int) + 1 := by exact_mod_cast hf
      exact two 1 4 p e (fun c c2 => c ++ c2) (by decide) (by decide) (by decide) rfl hp (by show _ + (1 : Int) < _; omega)
    | 4, _, hf =>
      have hf : 12 * (N - p) + 0 < (n : Int) + 1 := by exact_mod_cast hf
      refine ite_ne (a := ob (rd T N n 1 o (sk T N (p + 1)) e) (fun c q r => ob (rd T N n 4 o q r) (fun c2 q r => some (.inr (c ++ ((if lk T N p = 43 then 1 else 2) :: c2), q, r))))) (fun hs => ?_) (fun _ => some_ne)
      have hpN : p < N := by rcases hs with hs | hs <;> exact (lk_of (by decide) hs).1
      have h2 := sk_ge (T := T) hpN
      exact two 1 4 _ e (fun c c2 => c ++ ((if lk T N p = 43 then 1 else 2) :: c2)) (by decide) (by decide) (by decide) rfl h2.2 (by show _ + (1 : Int) < _; omega)
    | 5, _, hf =>
      have hf : 12 * (N - p) + 3 < (n : Int) + 1 := by exact_mod_cast hf
      rw [rd_5]
      unfold rdFact
      refine ite_ne (fun hw => ite_ne (fun _ => ?_) (fun _ => some_ne)) (fun _ => ite_ne (fun _ => some_ne) (fun _ => ite_ne (fun hl => ite_ne (fun _ => ?_) (fun _ => some_ne)) (fun _ => ?_)))
      · have h0 := wd_ge (T := T) (N := N) (p := p) (e := e) hp (by omega)
        exact ob_ne (ih 5 _ _ _ (by decide) h0.2.1 (by show _ + (3 : Int) < _; omega)) (fun _ _ _ _ => some_ne)
      · have h1 := lk_of (by decide) hl
        have h2 := sk_ge (T := T) h1.1
        exact ob_ne (ih 8 _ _ _ (by decide) h2.2 (by show _ + (5 : Int) < _; omega)) (fun c q d _ => os_ne (fun _ _ _ => some_ne))
      · refine ob_ne (ih 3 _ _ _ (by decide) hp (by show _ + (2 : Int) < _; omega)) (fun c q d hx => ite_ne (fun hs => ?_) (fun _ => some_ne))
        have h3 := rd_len n 3 _ _ _ _ _ _ hp hx
        have hqN : q < N := by rcases hs with hs | hs | hs <;> exact (lk_of (by decide) hs).1
        have h2 := sk_ge (T := T) hqN
        exact ob_ne (ih 3 _ _ _ (by decide) h2.2 (by show _ + (2 : Int) < _; omega)) (fun _ _ _ _ => some_ne)
    | 6, _, hf =>
      have hf : 12 * (N - p) + 4 < (n : Int) + 1 := by exact_mod_cast hf
      exact two 5 7 p e (fun c c2 => c ++ c2) (by decide) (by decide) (by decide) rfl hp (by show _ + (3 : Int) < _; omega)
    | 7, _, hf =>
      have hf : 12 * (N - p) + 0 < (n : Int) + 1 := by exact_mod_cast hf
      refine ite_ne (a := ob (rd T N n 5 o (sk T N (le T N p)) (le T N p)) (fun c q r => ob (rd T N n 7 o q r) (fun c2 q r => some (.inr (c ++ (14 :: c2), q, r))))) (fun hs => ?_) (fun _ => some_ne)
      have h0 := wd_ge (T := T) (N := N) (p := p) (e := e) hp (by omega)
      exact two 5 7 _ _ (fun c c2 => c ++ (14 :: c2)) (by decide) (by decide) (by decide) rfl h0.2.1 (by show _ + (3 : Int) < _; omega)
    | 8, _, hf =>
      have hf : 12 * (N - p) + 5 < (n : Int) + 1 := by exact_mod_cast hf
      exact two 6 9 p e (fun c c2 => c ++ c2) (by decide) (by decide) (by decide) rfl hp (by show _ + (4 : Int) < _; omega)
    | 9, _, hf =>
      have hf : 12 * (N - p) + 0 < (n : Int) + 1 := by exact_mod_cast hf
      refine ite_ne (a := ob (rd T N n 6 o (sk T N (le T N p)) (le T N p)) (fun c q r => ob (rd T N n 9 o q r) (fun c2 q r => some (.inr (c ++ (15 :: c2), q, r))))) (fun hs => ?_) (fun _ => some_ne)
      have h0 := wd_ge (T := T) (N := N) (p := p) (e := e) hp (by omega)
      exact two 6 9 _ _ (fun c c2 => c ++ (15 :: c2)) (by decide) (by decide) (by decide) rfl h0.2.1 (by show _ + (4 : Int) < _; omega)
    | k + 10, hm, _ => omega
theorem rq_ok (hN : N ≤ 1600) {mode : Nat} {p e : Int} (hm : mode ≤ 9) (h0 : 0 ≤ p) (hp : p ≤ N) : rd T N 20000 mode 0 p e = some (rq T N mode p e) := by
  have h4 : rk mode ≤ 5 := by unfold rk; split <;> (try split) <;> (try split) <;> (try split) <;> (try split) <;> omega
  have := rd_fuel (T := T) 20000 mode 0 p e hm hp (by omega)
  unfold rq
  cases hr : rd T N 20000 mode 0 p e with
  | none => exact absurd hr this
  | some r => rfl
end FUEL
