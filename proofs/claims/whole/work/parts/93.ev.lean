/-! THE RULES' CODES, reckoned on a stack -/
def clp (x : Int) : Int := if 1000000 < x then 1000000 else if x < -1000000 then -1000000 else x
/-- a / b, rounded down; 0 by 0 -/
def flr (a b : Int) : Int := if b = 0 then 0 else if ¬ a.tmod b = 0 ∧ ¬ (a < 0 ↔ b < 0) then a.tdiv b - 1 else a.tdiv b
def op2 (c a b : Int) : Int := if c = 1 then clp (a + b) else if c = 2 then clp (a - b) else if c = 3 then clp (a * b) else if c = 4 then flr a b else if c = 5 then min a b else if c = 6 then max a b else if c = 11 then (if a < b then 1 else 0) else if c = 12 then (if b < a then 1 else 0) else if c = 13 then (if a = b then 1 else 0) else if c = 14 then min a b else max a b
abbrev is01 (x : Int) : Prop := x = 0 ∨ x = 1
abbrev isWd (c : Int) : Prop := (7 ≤ c ∧ c ≤ 10) ∨ c = 18 ∨ c = 19
abbrev isOp (c : Int) : Prop := (1 ≤ c ∧ c ≤ 6) ∨ (11 ≤ c ∧ c ≤ 13)
def ev1 (E : Int → Int) (c : Int) (st : List Int) : Option (List Int) :=
  if 1000 ≤ c ∧ c ≤ 10999 then some ((c - 1000) :: st) else if c = 17 then some (1 :: st) else if isWd c then some (E c :: st) else match st with
  | [] => none
  | b :: st => if c = 16 then (if is01 b then some ((1 - b) :: st) else none) else match st with
    | [] => none
    | a :: st => if isOp c ∨ ((c = 14 ∨ c = 15) ∧ is01 a ∧ is01 b) then some (op2 c a b :: st) else none
def ev (E : Int → Int) : List Int → List Int → Option (List Int)
  | [], st => some st
  | c :: L, st => if st.length < 60 then (match ev1 E c st with | none => none | some st => ev E L st) else none
abbrev bd6 (v : Int) : Prop := -1000000 ≤ v ∧ v ≤ 1000000
def eB (E : Int → Int) : Prop := ∀ c, bd6 (E c)
/-- codes that come to one value, with k places of the stack -/
def wfV (k : Int) (P : Int → Prop) (c : List Int) : Prop := ∀ E st, eB E → (st.length : Int) + k < 60 → ∃ v, P v ∧ ev E c st = some (v :: st)
/-- codes that go on from one value -/
def wfR (k : Int) (P : Int → Prop) (c : List Int) : Prop := ∀ E st v, eB E → P v → (st.length : Int) + k < 60 → ∃ v', P v' ∧ ev E c (v :: st) = some (v' :: st)
def rbs (m : Nat) : Int := if m = 0 then 1 else if m ≤ 2 then 2 else if m ≤ 4 then 3 else if m = 5 then 4 else if m ≤ 7 then 5 else 6
def wfm (m : Nat) (o : Int) (c : List Int) : Prop := match m with
  | 0 => wfV (1 + 3 * (6 - o)) bd6 c
  | 1 => wfV (2 + 3 * (6 - o)) bd6 c
  | 2 => wfR (2 + 3 * (6 - o)) bd6 c
  | 3 => wfV (3 + 3 * (6 - o)) bd6 c
  | 4 => wfR (3 + 3 * (6 - o)) bd6 c
  | 5 => wfV (4 + 3 * (6 - o)) is01 c
  | 6 => wfV (5 + 3 * (6 - o)) is01 c
  | 7 => wfR (5 + 3 * (6 - o)) is01 c
  | 8 => wfV (6 + 3 * (6 - o)) is01 c
  | _ => wfR (6 + 3 * (6 - o)) is01 c
theorem rd_1 {T : Int → Int} {N : Int} {n : Nat} {o p e : Int} : rd T N (n + 1) 1 o p e = ob (rd T N n 0 o p e) (fun c q r => ob (rd T N n 2 o q r) (fun c2 q r => some (.inr (c ++ c2, q, r)))) := rfl
theorem rd_2 {T : Int → Int} {N : Int} {n : Nat} {o p e : Int} : rd T N (n + 1) 2 o p e = if lk T N p = 42 ∨ lk T N p = 47 then ob (rd T N n 0 o (sk T N (p + 1)) e) (fun c q r => ob (rd T N n 2 o q r) (fun c2 q r => some (.inr (c ++ ((if lk T N p = 42 then 3 else 4) :: c2), q, r)))) else some (.inr ([], p, e)) := rfl
theorem rd_3 {T : Int → Int} {N : Int} {n : Nat} {o p e : Int} : rd T N (n + 1) 3 o p e = ob (rd T N n 1 o p e) (fun c q r => ob (rd T N n 4 o q r) (fun c2 q r => some (.inr (c ++ c2, q, r)))) := rfl
theorem rd_4 {T : Int → Int} {N : Int} {n : Nat} {o p e : Int} : rd T N (n + 1) 4 o p e = if lk T N p = 43 ∨ lk T N p = 45 then ob (rd T N n 1 o (sk T N (p + 1)) e) (fun c q r => ob (rd T N n 4 o q r) (fun c2 q r => some (.inr (c ++ ((if lk T N p = 43 then 1 else 2) :: c2), q, r)))) else some (.inr ([], p, e)) := rfl
theorem rd_6 {T : Int → Int} {N : Int} {n : Nat} {o p e : Int} : rd T N (n + 1) 6 o p e = ob (rd T N n 5 o p e) (fun c q r => ob (rd T N n 7 o q r) (fun c2 q r => some (.inr (c ++ c2, q, r)))) := rfl
theorem rd_7 {T : Int → Int} {N : Int} {n : Nat} {o p e : Int} : rd T N (n + 1) 7 o p e = if wd T N p e = 17 then ob (rd T N n 5 o (sk T N (le T N p)) (le T N p)) (fun c q r => ob (rd T N n 7 o q r) (fun c2 q r => some (.inr (c ++ (14 :: c2), q, r)))) else some (.inr ([], p, e)) := rfl
theorem rd_8 {T : Int → Int} {N : Int} {n : Nat} {o p e : Int} : rd T N (n + 1) 8 o p e = ob (rd T N n 6 o p e) (fun c q r => ob (rd T N n 9 o q r) (fun c2 q r => some (.inr (c ++ c2, q, r)))) := rfl
theorem rd_9 {T : Int → Int} {N : Int} {n : Nat} {o p e : Int} : rd T N (n + 1) 9 o p e = if wd T N p e = 16 then ob (rd T N n 6 o (sk T N (le T N p)) (le T N p)) (fun c q r => ob (rd T N n 9 o q r) (fun c2 q r => some (.inr (c ++ (15 :: c2), q, r)))) else some (.inr ([], p, e)) := rfl
section EV
variable {T : Int → Int} {N : Int} {E : Int → Int}
theorem ev_app : ∀ (L1 L2 st : List Int), ev E (L1 ++ L2) st = match ev E L1 st with | none => none | some st => ev E L2 st := by
  intro L1
  induction L1 with
  | nil => intro L2 st; rfl
  | cons c L1 ih =>
    intro L2 st
    show (if st.length < 60 then (match ev1 E c st with | none => none | some st => ev E (L1 ++ L2) st) else none) = match (if st.length < 60 then (match ev1 E c st with | none => none | some st => ev E L1 st) else none) with | none => none | some st => ev E L2 st
    split
    · cases ev1 E c st with
      | none => rfl
      | some st => exact ih L2 st
    · rfl
theorem ev_app_in {L1 L2 st st' : List Int} (h : ev E L1 st = some st') : ev E (L1 ++ L2) st = ev E L2 st' := by rw [ev_app, h]
theorem clp_bd (x : Int) : bd6 (clp x) := by unfold clp; split; · constructor <;> omega
                                             · split <;> constructor <;> omega
theorem flr_bd {a b : Int} (ha : bd6 a) : bd6 (flr a b) := by
  unfold flr
  split
  · constructor <;> omega
  · next hb =>
    have h1 : a.tdiv b = a.tdiv b := rfl
    have h2 : (a.tdiv b).natAbs ≤ a.natAbs := by
      rw [Int.natAbs_tdiv]; exact Nat.div_le_self _ _
    split
    · next hc =>
      have h3 : ¬ (a.tdiv b).natAbs = a.natAbs ∨ b.natAbs = 1 := by
        by_cases hb1 : b.natAbs = 1
        · exact Or.inr hb1
        · left
          intro he
          rw [Int.natAbs_tdiv] at he
          have he : a.natAbs / b.natAbs = a.natAbs := he
          have hb2 : 2 ≤ b.natAbs := by omega
          by_cases ha0 : a.natAbs = 0
          · have : a = 0 := by omega
            rw [this] at hc; exact hc.1 (Int.zero_tmod b)
          · have := Nat.div_lt_self (n := a.natAbs) (k := b.natAbs) (by omega) hb2
            omega
      rcases h3 with h3 | h3
      · constructor <;> omega
      · exfalso
        apply hc.1
        have : b = 1 ∨ b = -1 := by omega
        rcases this with e | e
        · rw [e]; exact Int.tmod_one a
        · rw [e, Int.tmod_neg]; exact Int.tmod_one a
    · constructor <;> omega
theorem op2_bd {c a b : Int} (hc : 1 ≤ c ∧ c ≤ 6) (ha : bd6 a) (hb : bd6 b) : bd6 (op2 c a b) := by
  unfold op2
  rcases (show c = 1 ∨ c = 2 ∨ c = 3 ∨ c = 4 ∨ c = 5 ∨ c = 6 by omega) with e | e | e | e | e | e
  · rw [if_pos e]; exact clp_bd _
  · rw [if_neg (by omega), if_pos e]; exact clp_bd _
  · rw [if_neg (by omega), if_neg (by omega), if_pos e]; exact clp_bd _
  · rw [if_neg (by omega), if_neg (by omega), if_neg (by omega), if_pos e]; exact flr_bd ha
  · rw [if_neg (by omega), if_neg (by omega), if_neg (by omega), if_neg (by omega), if_pos e]; constructor <;> omega
  · rw [if_neg (by omega), if_neg (by omega), if_neg (by omega), if_neg (by omega), if_neg (by omega), if_pos e]; constructor <;> omega
theorem op2_B {c a b : Int} (hc : 11 ≤ c ∧ c ≤ 13) : is01 (op2 c a b) := by
  unfold op2
  rw [if_neg (by omega), if_neg (by omega), if_neg (by omega), if_neg (by omega), if_neg (by omega), if_neg (by omega)]
  rcases (show c = 11 ∨ c = 12 ∨ c = 13 by omega) with e | e | e
  · rw [if_pos e]; split <;> omega
  · rw [if_neg (by omega), if_pos e]; split <;> omega
  · rw [if_neg (by omega), if_neg (by omega), if_pos e]; split <;> omega
theorem op2_C {c a b : Int} (hc : c = 14 ∨ c = 15) (ha : is01 a) (hb : is01 b) : is01 (op2 c a b) := by
  unfold op2
  rw [if_neg (by omega), if_neg (by omega), if_neg (by omega), if_neg (by omega), if_neg (by omega), if_neg (by omega), if_neg (by omega), if_neg (by omega), if_neg (by omega)]
  split <;> omega
theorem ev1_o {c a b : Int} {st : List Int} (hc : isOp c ∨ ((c = 14 ∨ c = 15) ∧ is01 a ∧ is01 b)) : ev1 E c (b :: a :: st) = some (op2 c a b :: st) := by
  unfold ev1
  rw [if_neg (by omega), if_neg (by omega), if_neg (by unfold isWd; omega)]
  simp only
  rw [if_neg (by omega), if_pos hc]
theorem ev_1 {c : Int} {st st' : List Int} (hl : st.length < 60) (h : ev1 E c st = some st') (L : List Int) : ev E (c :: L) st = ev E L st' := by
  show (if st.length < 60 then (match ev1 E c st with | none => none | some st => ev E L st) else none) = _
  rw [if_pos hl, h]
/-- one value, then codes that go on -/
theorem wfV.app {k : Int} {P : Int → Prop} {c c2 : List Int} (h : wfV k P c) (h2 : wfR k P c2) : wfV k P (c ++ c2) := fun E st hE hl => by
  obtain ⟨v, hv, e1⟩ := h E st hE hl
  obtain ⟨v', hv', e2⟩ := h2 E st v hE hv hl
  exact ⟨v', hv', by rw [ev_app_in e1]; exact e2⟩
theorem wfV.mono {k k' : Int} {P : Int → Prop} {c : List Int} (h : wfV k P c) (hk : k ≤ k') : wfV k' P c := fun E st hE hl => h E st hE (by omega)
theorem wfR.nil {k : Int} {P : Int → Prop} : wfR k P [] := fun E st v hE hv hl => ⟨v, hv, rfl⟩
/-- a value, a second one, and a code that joins them -/
theorem wfR.op {k : Int} {P : Int → Prop} {c c2 : List Int} {x : Int} (hk : 1 ≤ k) (h : wfV k P c) (hx : ∀ a b, P a → P b → P (op2 x a b) ∧ (isOp x ∨ ((x = 14 ∨ x = 15) ∧ is01 a ∧ is01 b))) (h2 : wfR (k + 1) P c2) : wfR (k + 1) P (c ++ (x :: c2)) := fun E st v hE hv hl => by
  obtain ⟨w, hw, e1⟩ := h E (v :: st) hE (by rw [List.length_cons]; push_cast; omega)
  obtain ⟨p1, p2⟩ := hx v w hv hw
  obtain ⟨v', hv', e2⟩ := h2 E st (op2 x v w) hE p1 (by omega)
  refine ⟨v', hv', ?_⟩
  rw [ev_app_in e1, ev_1 (by simp only [List.length_cons]; omega) (ev1_o p2)]; exact e2
theorem wfV.two {k : Int} {P Q : Int → Prop} {c c2 : List Int} {x : Int} (hk : 1 ≤ k) (h : wfV k P c) (h2 : wfV k P c2) (hx : ∀ a b, P a → P b → Q (op2 x a b) ∧ (isOp x ∨ ((x = 14 ∨ x = 15) ∧ is01 a ∧ is01 b))) : wfV (k + 1) Q (c ++ (c2 ++ [x])) := fun E st hE hl => by
  obtain ⟨v, hv, e1⟩ := h E st hE (by omega)
  obtain ⟨w, hw, e2⟩ := h2 E (v :: st) hE (by rw [List.length_cons]; push_cast; omega)
  obtain ⟨p1, p2⟩ := hx v w hv hw
  exact ⟨_, p1, by rw [ev_app_in e1, ev_app_in e2, ev_1 (by simp only [List.length_cons]; omega) (ev1_o p2)]; rfl⟩
theorem rd_wf : ∀ (n mode : Nat) (o p e : Int) (c : List Int) (q r : Int), o ≤ 6 → rd T N n mode o p e = some (.inr (c, q, r)) → wfm mode o c := by
  intro n
  induction n with
  | zero => intro mode o p e c q r _ h; unfold rd at h; cases h
  | succ n ih =>
    intro mode o p e c q r ho h
    match mode, h with
    | 0, h =>
      rw [rd_0] at h
      unfold rdPart at h
      show wfV (1 + 3 * (6 - o)) bd6 c
      split at h
      · unfold rdNum at h
        cases hn : l_num T N 0 9999 p e with
        | inl e0 => rw [hn] at h; cases h
        | inr s =>
          rw [hn] at h
          have hv := l_num_lo (v := s.1) (q := s.2.1) (d := s.2.2) hn
          cases h
          intro E st hE hl
          refine ⟨s.1, by constructor <;> omega, ?_⟩
          rw [ev_1 (by omega) (by unfold ev1; rw [if_pos (by omega)])]
          show some ((1000 + s.1 - 1000) :: st) = _
          rw [show 1000 + s.1 - 1000 = s.1 by omega]
      · split at h
        · split at h
          · next ho6 =>
            obtain ⟨c1, q1, r1, h1, h2⟩ := ob_some h
            obtain ⟨q2, r2, h3, h4⟩ := os_some h2
            have g := ih 3 _ _ _ _ _ _ (by omega) h1
            cases h4
            have g : wfV (3 + 3 * (6 - (o + 1))) bd6 c := g
            exact g.mono (by omega)
          · cases h
        · split at h
          · next hv =>
            cases h
            intro E st hE hl
            refine ⟨E (wcd (wd T N p e)), hE _, ?_⟩
            have hw : isWd (wcd (wd T N p e)) ∧ ¬ (1000 ≤ wcd (wd T N p e) ∧ wcd (wd T N p e) ≤ 10999) ∧ ¬ wcd (wd T N p e) = 17 := by
              rcases hv with e | e | e | e | e | e <;> rw [e] <;> decide
            rw [ev_1 (by omega) (by unfold ev1; rw [if_neg hw.2.1, if_neg hw.2.2, if_pos hw.1])]; rfl
          · split at h
            · split at h
              · split at h
                · next ho6 =>
                  obtain ⟨c1, q1, r1, h1, h2⟩ := ob_some h
                  obtain ⟨q2, r2, h3, h4⟩ := os_some h2
                  obtain ⟨c3, q3, r3, h5, h6⟩ := ob_some h4
                  obtain ⟨q4, r4, h7, h8⟩ := os_some h6
                  have g1 : wfV (3 + 3 * (6 - (o + 1))) bd6 c1 := ih 3 _ _ _ _ _ _ (by omega) h1
                  have g2 : wfV (3 + 3 * (6 - (o + 1))) bd6 c3 := ih 3 _ _ _ _ _ _ (by omega) h5
                  cases h8
                  refine (wfV.two (by omega) g1 g2 (x := if wd T N p e = 23 then 5 else 6) (Q := bd6) (fun a b ha hb => ?_)).mono (by omega)
                  split
                  · exact ⟨op2_bd (by decide) ha hb, Or.inl (by decide)⟩
                  · exact ⟨op2_bd (by decide) ha hb, Or.inl (by decide)⟩
                · cases h
              · cases h
            · cases h
    | 1, h =>
      rw [rd_1] at h
      obtain ⟨c1, q1, r1, h1, h2⟩ := ob_some h
      obtain ⟨c2, q2, r2, h3, h4⟩ := ob_some h2
      have g1 : wfV (1 + 3 * (6 - o)) bd6 c1 := ih 0 _ _ _ _ _ _ ho h1
      have g2 : wfR (2 + 3 * (6 - o)) bd6 c2 := ih 2 _ _ _ _ _ _ ho h3
      cases h4
      exact (g1.mono (by omega)).app g2
    | 2, h =>
      rw [rd_2] at h
      show wfR (2 + 3 * (6 - o)) bd6 c
      split at h
      · obtain ⟨c1, q1, r1, h1, h2⟩ := ob_some h
        obtain ⟨c2, q2, r2, h3, h4⟩ := ob_some h2
        have g1 : wfV (1 + 3 * (6 - o)) bd6 c1 := ih 0 _ _ _ _ _ _ ho h1
        have g2 : wfR (2 + 3 * (6 - o)) bd6 c2 := ih 2 _ _ _ _ _ _ ho h3
        cases h4
        rw [show 2 + 3 * (6 - o) = (1 + 3 * (6 - o)) + 1 by omega] at g2 ⊢
        refine wfR.op (by omega) g1 (fun a b ha hb => ?_) g2
        split
        · exact ⟨op2_bd (by decide) ha hb, Or.inl (by decide)⟩
        · exact ⟨op2_bd (by decide) ha hb, Or.inl (by decide)⟩
      · cases h; exact wfR.nil
    | 3, h =>
      rw [rd_3] at h
      obtain ⟨c1, q1, r1, h1, h2⟩ := ob_some h
      obtain ⟨c2, q2, r2, h3, h4⟩ := ob_some h2
      have g1 : wfV (2 + 3 * (6 - o)) bd6 c1 := ih 1 _ _ _ _ _ _ ho h1
      have g2 : wfR (3 + 3 * (6 - o)) bd6 c2 := ih 4 _ _ _ _ _ _ ho h3
      cases h4
      exact (g1.mono (by omega)).app g2
    | 4, h =>
      rw [rd_4] at h
      show wfR (3 + 3 * (6 - o)) bd6 c
      split at h
      · obtain ⟨c1, q1, r1, h1, h2⟩ := ob_some h
        obtain ⟨c2, q2, r2, h3, h4⟩ := ob_some h2
        have g1 : wfV (2 + 3 * (6 - o)) bd6 c1 := ih 1 _ _ _ _ _ _ ho h1
        have g2 : wfR (3 + 3 * (6 - o)) bd6 c2 := ih 4 _ _ _ _ _ _ ho h3
        cases h4
        rw [show 3 + 3 * (6 - o) = (2 + 3 * (6 - o)) + 1 by omega] at g2 ⊢
        refine wfR.op (by omega) g1 (fun a b ha hb => ?_) g2
        split
        · exact ⟨op2_bd (by decide) ha hb, Or.inl (by decide)⟩
        · exact ⟨op2_bd (by decide) ha hb, Or.inl (by decide)⟩
      · cases h; exact wfR.nil
    | 5, h =>
      rw [rd_5] at h
      unfold rdFact at h
      show wfV (4 + 3 * (6 - o)) is01 c
      split at h
      · split at h
        · obtain ⟨c1, q1, r1, h1, h2⟩ := ob_some h
          have g1 : wfV (4 + 3 * (6 - (o + 1))) is01 c1 := ih 5 _ _ _ _ _ _ (by omega) h1
          cases h2
          intro E st hE hl
          obtain ⟨v, hv, e1⟩ := g1 E st hE (by omega)
          refine ⟨1 - v, by omega, ?_⟩
          rw [ev_app_in e1, ev_1 (by simp only [List.length_cons]; omega) (st' := (1 - v) :: st) (by unfold ev1; rw [if_neg (by decide), if_neg (by decide), if_neg (by decide)]; simp only; rw [if_pos trivial, if_pos hv])]; rfl
        · cases h
      · split at h
        · cases h
          intro E st hE hl
          refine ⟨1, Or.inr rfl, ?_⟩
          rw [ev_1 (by omega) (by unfold ev1; rw [if_neg (by decide), if_pos rfl])]; rfl
        · split at h
          · split at h
            · obtain ⟨c1, q1, r1, h1, h2⟩ := ob_some h
              obtain ⟨q2, r2, h3, h4⟩ := os_some h2
              have g1 : wfV (6 + 3 * (6 - (o + 1))) is01 c1 := ih 8 _ _ _ _ _ _ (by omega) h1
              cases h4
              exact g1.mono (by omega)
            · cases h
          · obtain ⟨c1, q1, r1, h1, h2⟩ := ob_some h
            have g1 : wfV (3 + 3 * (6 - o)) bd6 c1 := ih 3 _ _ _ _ _ _ ho h1
            split at h2
            · obtain ⟨c2, q2, r2, h3, h4⟩ := ob_some h2
              have g2 : wfV (3 + 3 * (6 - o)) bd6 c2 := ih 3 _ _ _ _ _ _ ho h3
              cases h4
              refine (wfV.two (by omega) g1 g2 (Q := is01) (fun a b ha hb => ?_)).mono (by omega)
              have hx : ∀ x : Int, 11 ≤ x ∧ x ≤ 13 → is01 (op2 x a b) ∧ (isOp x ∨ ((x = 14 ∨ x = 15) ∧ is01 a ∧ is01 b)) := fun x hx => ⟨op2_B hx, Or.inl (Or.inr hx)⟩
              split
              · exact hx _ (by decide)
              · split
                · exact hx _ (by decide)
                · exact hx _ (by decide)
            · cases h2
    | 6, h =>
      rw [rd_6] at h
      obtain ⟨c1, q1, r1, h1, h2⟩ := ob_some h
      obtain ⟨c2, q2, r2, h3, h4⟩ := ob_some h2
      have g1 : wfV (4 + 3 * (6 - o)) is01 c1 := ih 5 _ _ _ _ _ _ ho h1
      have g2 : wfR (5 + 3 * (6 - o)) is01 c2 := ih 7 _ _ _ _ _ _ ho h3
      cases h4
      exact (g1.mono (by omega)).app g2
    | 7, h =>
      rw [rd_7] at h
      show wfR (5 + 3 * (6 - o)) is01 c
      split at h
      · obtain ⟨c1, q1, r1, h1, h2⟩ := ob_some h
        obtain ⟨c2, q2, r2, h3, h4⟩ := ob_some h2
        have g1 : wfV (4 + 3 * (6 - o)) is01 c1 := ih 5 _ _ _ _ _ _ ho h1
        have g2 : wfR (5 + 3 * (6 - o)) is01 c2 := ih 7 _ _ _ _ _ _ ho h3
        cases h4
        rw [show 5 + 3 * (6 - o) = (4 + 3 * (6 - o)) + 1 by omega] at g2 ⊢
        exact wfR.op (by omega) g1 (fun a b ha hb => ⟨op2_C (Or.inl rfl) ha hb, Or.inr ⟨Or.inl rfl, ha, hb⟩⟩) g2
      · cases h; exact wfR.nil
    | 8, h =>
      rw [rd_8] at h
      obtain ⟨c1, q1, r1, h1, h2⟩ := ob_some h
      obtain ⟨c2, q2, r2, h3, h4⟩ := ob_some h2
      have g1 : wfV (5 + 3 * (6 - o)) is01 c1 := ih 6 _ _ _ _ _ _ ho h1
      have g2 : wfR (6 + 3 * (6 - o)) is01 c2 := ih 9 _ _ _ _ _ _ ho h3
      cases h4
      exact (g1.mono (by omega)).app g2
    | 9, h =>
      rw [rd_9] at h
      show wfR (6 + 3 * (6 - o)) is01 c
      split at h
      · obtain ⟨c1, q1, r1, h1, h2⟩ := ob_some h
        obtain ⟨c2, q2, r2, h3, h4⟩ := ob_some h2
        have g1 : wfV (5 + 3 * (6 - o)) is01 c1 := ih 6 _ _ _ _ _ _ ho h1
        have g2 : wfR (6 + 3 * (6 - o)) is01 c2 := ih 9 _ _ _ _ _ _ ho h3
        cases h4
        rw [show 6 + 3 * (6 - o) = (5 + 3 * (6 - o)) + 1 by omega] at g2 ⊢
        exact wfR.op (by omega) g1 (fun a b ha hb => ⟨op2_C (Or.inr rfl) ha hb, Or.inr ⟨Or.inr rfl, ha, hb⟩⟩) g2
      · cases h; exact wfR.nil
    | m + 10, h => unfold rd at h; cases h
end EV
