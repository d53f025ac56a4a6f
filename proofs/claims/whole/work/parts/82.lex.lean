/-! THE TEXT: bytes T, N of them; places are those behind blanks -/
abbrev q_R (α : Type) : Type := (Int × Int) ⊕ α
def rb {α β : Type} (x : q_R α) (k : α → q_R β) : q_R β := match x with
  | .inl e => .inl e
  | .inr a => k a
def isB (c : Int) : Bool := decide (c = 10 ∨ c = 32)
def isL (c : Int) : Bool := decide (97 ≤ c ∧ c ≤ 122)
def isG (c : Int) : Bool := decide (48 ≤ c ∧ c ≤ 57)
/-- the first place from p on (m at most) at which P doesn't hold -/
def endN (P : Int → Bool) (T : Int → Int) : Nat → Int → Int
  | 0, p => p
  | m + 1, p => if P (T p) then endN P T m (p + 1) else p
def sk (T : Int → Int) (N p : Int) : Int := endN isB T (N - p).toNat p
def le (T : Int → Int) (N p : Int) : Int := endN isL T (N - p).toNat p
def de (T : Int → Int) (N p : Int) : Int := endN isG T (N - p).toNat p
def lk (T : Int → Int) (N p : Int) : Int := if p < N then T p else -1
/-- the bytes from p on, m of them -/
def sg (T : Int → Int) : Nat → Int → List Int
  | 0, _ => []
  | m + 1, p => T p :: sg T m (p + 1)
def wds : List (List Int) := [[116, 114, 97, 105, 116, 115], [112, 101, 114, 115, 111, 110], [115, 104, 97, 100, 101], [102, 101, 101], [102, 97, 107, 101, 115], [112, 108, 97, 99, 101], [114, 111, 97, 100], [115, 101, 101, 110], [97, 116], [104, 111, 117, 114], [108, 105, 103, 104, 116], [114, 97, 105, 110], [100, 114, 121], [112, 114, 105, 99, 101], [119, 104, 101, 110], [116, 105, 116, 104, 101], [111, 114], [97, 110, 100], [110, 111, 116], [97, 108, 108], [119, 101, 116], [117, 110, 108, 105, 107, 101], [112, 97, 115, 115], [109, 105, 110], [109, 97, 120]]
def idx (w : List Int) : List (List Int) → Int → Int
  | [], _ => -1
  | u :: us, i => if w = u then i else idx w us (i + 1)
/-- which own word stands at a place (e: where the last word or number ended); -1 -/
def wd (T : Int → Int) (N p e : Int) : Int := if p = e then -1 else idx (sg T (le T N p - p).toNat p) wds 0
def numN (T : Int → Int) : Nat → Int → Int → Int
  | 0, _, v => v
  | m + 1, p, v => numN T m (p + 1) (10 * v + T p - 48)
/-- a name's letters, five bits each -/
def namN (T : Int → Int) : Nat → Int → Int
  | 0, _ => 0
  | m + 1, p => namN T m p + (T (p + m) - 96) * 32 ^ m
def l_sign (T : Int → Int) (N c p e : Int) : q_R (Int × Int) := if lk T N p = c then .inr (sk T N (p + 1), e) else .inl (1, p)
def l_word (T : Int → Int) (N i p e : Int) : q_R (Int × Int) := if wd T N p e = i then .inr (sk T N (le T N p), le T N p) else .inl (1, p)
def l_num (T : Int → Int) (N lo hi p e : Int) : q_R (Int × Int × Int) := if isG (lk T N p) = true ∧ ¬ p = e then (if de T N p - p ≤ 4 then (if lo ≤ numN T (de T N p - p).toNat p 0 ∧ numN T (de T N p - p).toNat p 0 ≤ hi then .inr (numN T (de T N p - p).toNat p 0, sk T N (de T N p), de T N p) else .inl (2, p)) else .inl (1, p + 4)) else .inl (1, p)
def l_name (T : Int → Int) (N p e : Int) : q_R (List Int × Int × Int) := if isL (lk T N p) = true ∧ ¬ p = e ∧ wd T N p e = -1 then (if le T N p - p ≤ 6 then .inr (sg T (le T N p - p).toNat p, sk T N (le T N p), le T N p) else .inl (1, p + 6)) else .inl (1, p)
/-- a name as the class packs it, and as the reference does -/
def pk32 : List Int → Int
  | [] => 0
  | c :: l => (c - 96) + 32 * pk32 l
def pr27 : List Int → Int
  | [] => 0
  | c :: l => 27 * pr27 l + (c - 96)
def pk27 (l : List Int) : Int := pr27 l.reverse
def isNm (l : List Int) : Prop := 1 ≤ l.length ∧ l.length ≤ 6 ∧ ∀ c ∈ l, isL c = true
/-- a text as it can be -/
def tW (T : Int → Int) (N : Int) : Prop := (0 ≤ N ∧ N ≤ 1600) ∧ ∀ k, 0 ≤ k → k < N → 0 ≤ T k ∧ T k ≤ 255
section LEX
variable {T : Int → Int} {N : Int}
theorem endN_rg (P : Int → Bool) : ∀ (m : Nat) (p : Int), p ≤ endN P T m p ∧ endN P T m p ≤ p + m ∧ (∀ j, p ≤ j → j < endN P T m p → P (T j) = true) ∧ (endN P T m p < p + m → P (T (endN P T m p)) = false) := by
  intro m
  induction m with
  | zero => intro p; unfold endN; exact ⟨by omega, by omega, fun j a b => by omega, fun a => by omega⟩
  | succ m ih =>
    intro p
    unfold endN
    cases hp : P (T p)
    · rw [if_neg (by decide)]; exact ⟨by omega, by omega, fun j a b => by omega, fun _ => hp⟩
    · rw [if_pos rfl]
      obtain ⟨h1, h2, h3, h4⟩ := ih (p + 1)
      refine ⟨by omega, by omega, fun j a b => ?_, fun a => h4 (by omega)⟩
      by_cases e : j = p
      · rw [e]; exact hp
      · exact h3 j (by omega) b
theorem sk_rg {p : Int} (hp : p ≤ N) : p ≤ sk T N p ∧ sk T N p ≤ N := by
  have := endN_rg (T := T) isB (N - p).toNat p
  unfold sk; omega
theorem sk_at {p : Int} (hp : p ≤ N) : sk T N p < N → isB (T (sk T N p)) = false := by
  have := endN_rg (T := T) isB (N - p).toNat p
  intro h
  exact this.2.2.2 (by unfold sk at h; omega)
theorem sk_id {p : Int} (h : p < N → isB (T p) = false) : sk T N p = p := by
  unfold sk
  cases hm : (N - p).toNat with
  | zero => rfl
  | succ m => unfold endN; rw [h (by omega)]; rfl
theorem sk_sk {p : Int} (hp : p ≤ N) : sk T N (sk T N p) = sk T N p := sk_id (sk_at hp)
theorem sk_step {p : Int} (hp : p < N) (hb : isB (T p) = true) : sk T N (p + 1) = sk T N p := by
  unfold sk
  rw [show (N - p).toNat = (N - (p + 1)).toNat + 1 by omega]
  conv => rhs; unfold endN
  rw [hb]; rfl
theorem le_rg {p : Int} (hp : p ≤ N) : p ≤ le T N p ∧ le T N p ≤ N ∧ (∀ j, p ≤ j → j < le T N p → isL (T j) = true) ∧ (le T N p < N → isL (T (le T N p)) = false) := by
  have := endN_rg (T := T) isL (N - p).toNat p
  unfold le
  exact ⟨this.1, by omega, this.2.2.1, fun h => this.2.2.2 (by omega)⟩
theorem de_rg {p : Int} (hp : p ≤ N) : p ≤ de T N p ∧ de T N p ≤ N ∧ (∀ j, p ≤ j → j < de T N p → isG (T j) = true) ∧ (de T N p < N → isG (T (de T N p)) = false) := by
  have := endN_rg (T := T) isG (N - p).toNat p
  unfold de
  exact ⟨this.1, by omega, this.2.2.1, fun h => this.2.2.2 (by omega)⟩
/-- an end is where all ahead of it holds, and it doesn't -/
theorem endN_is (P : Int → Bool) {z : Int} : ∀ (m : Nat) (p : Int), p ≤ z → z ≤ p + m → (∀ j, p ≤ j → j < z → P (T j) = true) → (z < p + m → P (T z) = false) → endN P T m p = z := by
  intro m
  induction m with
  | zero => intro p h1 h2 _ _; unfold endN; omega
  | succ m ih =>
    intro p h1 h2 h3 h4
    unfold endN
    by_cases e : p = z
    · subst e; rw [h4 (by omega)]; rfl
    · rw [h3 p (by omega) (by omega), if_pos rfl]
      exact ih (p + 1) (by omega) (by omega) (fun j a b => h3 j (by omega) b) (fun a => h4 (by omega))
theorem le_is {p z : Int} (h1 : p ≤ z) (h2 : z ≤ N) (h3 : ∀ j, p ≤ j → j < z → isL (T j) = true) (h4 : z < N → isL (T z) = false) : le T N p = z := endN_is isL _ _ h1 (by omega) h3 (fun h => h4 (by omega))
theorem de_is {p z : Int} (h1 : p ≤ z) (h2 : z ≤ N) (h3 : ∀ j, p ≤ j → j < z → isG (T j) = true) (h4 : z < N → isG (T z) = false) : de T N p = z := endN_is isG _ _ h1 (by omega) h3 (fun h => h4 (by omega))
theorem lk_rg (hT : tW T N) {p : Int} (h0 : 0 ≤ p) : -1 ≤ lk T N p ∧ lk T N p ≤ 255 ∧ (lk T N p = -1 → N ≤ p) := by
  unfold lk
  split
  · next h => have := hT.2 p h0 h; omega
  · exact ⟨by omega, by omega, fun _ => by omega⟩
theorem lk_of {p c : Int} (hc : 0 ≤ c) (h : lk T N p = c) : p < N ∧ T p = c := by
  unfold lk at h
  split at h
  · exact ⟨by assumption, h⟩
  · omega
theorem sg_len : ∀ (m : Nat) (p : Int), (sg T m p).length = m := by
  intro m
  induction m with
  | zero => intro p; rfl
  | succ m ih => intro p; unfold sg; rw [List.length_cons, ih]
theorem sg_is {w : List Int} : ∀ (m : Nat) (p : Int), w.length = m → ((sg T m p = w) ↔ ∀ k : Nat, k < m → T (p + k) = w.getD k 0) := by
  induction w with
  | nil => intro m p hm; subst hm; unfold sg; simp
  | cons c w ih =>
    intro m p hm
    subst hm
    show sg T (w.length + 1) p = c :: w ↔ _
    unfold sg
    rw [List.cons.injEq, ih w.length (p + 1) rfl]
    constructor
    · rintro ⟨h1, h2⟩ k hk
      cases k with
      | zero => simpa using h1
      | succ k =>
        have := h2 k (by simpa using hk)
        simp only [List.getD_cons_succ]
        rw [← this]; congr 1; push_cast; omega
    · intro h
      refine ⟨by have := h 0 (by simp); simpa using this, fun k hk => ?_⟩
      have := h (k + 1) (by simpa using hk)
      simp only [List.getD_cons_succ] at this
      rw [← this]; congr 1; push_cast; omega
theorem idx_rg (w : List Int) : ∀ (ws : List (List Int)) (i : Int), 0 ≤ i → idx w ws i = -1 ∨ (i ≤ idx w ws i ∧ idx w ws i < i + ws.length) := by
  intro ws
  induction ws with
  | nil => intro i _; exact Or.inl rfl
  | cons u us ih =>
    intro i hi
    unfold idx
    rw [List.length_cons]
    split
    · right; omega
    · rcases ih (i + 1) (by omega) with h | h
      · exact Or.inl h
      · right; omega
theorem wd_rg (p e : Int) : -1 ≤ wd T N p e ∧ wd T N p e < 25 := by
  unfold wd
  split
  · omega
  · have := idx_rg (sg T (le T N p - p).toNat p) wds 0 (by decide)
    have h : wds.length = 25 := by decide
    omega
theorem idx_at (w : List Int) : ∀ (k : Nat), k < 25 → (idx w wds 0 = k ↔ w = wds.getD k []) := by
  intro k hk
  constructor
  · intro h
    have : ∀ (ws : List (List Int)) (i : Int), 0 ≤ i → ∀ j : Nat, idx w ws i = i + j → w = ws.getD j [] := by
      intro ws
      induction ws with
      | nil => intro i hi j hj; unfold idx at hj; omega
      | cons u us ih =>
        intro i hi j hj
        unfold idx at hj
        split at hj
        · next e => have : j = 0 := by omega
                    subst this; exact e
        · cases j with
          | zero =>
            rcases idx_rg w us (i + 1) (by omega) with h | h <;> omega
          | succ j => exact ih (i + 1) (by omega) j (by omega)
    exact this wds 0 (by decide) k (by omega)
  · intro h
    have : ∀ k : Nat, k < 25 → idx (wds.getD k []) wds 0 = k := by decide +kernel
    rw [h]; exact this k hk
theorem idx_no (w : List Int) : idx w wds 0 = -1 ↔ ∀ k : Nat, k < 25 → ¬ w = wds.getD k [] := by
  constructor
  · intro h k hk e
    have := (idx_at w k hk).mpr e
    omega
  · intro h
    have h0 : wds.length = 25 := by decide
    rcases idx_rg w wds 0 (by decide) with h1 | h1
    · exact h1
    · have := (idx_at w (idx w wds 0).toNat (by omega)).mp (by omega)
      exact absurd this (h _ (by omega))
/-- no own word is empty -/
theorem wd_lt {p e : Int} (hp : p ≤ N) (h : ¬ wd T N p e = -1) : ¬ p = e ∧ p < le T N p ∧ isL (lk T N p) = true := by
  unfold wd at h
  split at h
  · exact absurd rfl h
  · next h1 =>
    have hr := le_rg (T := T) hp
    have h2 : p < le T N p := by
      by_cases e2 : le T N p = p
      · rw [e2] at h
        have : idx (sg T (p - p).toNat p) wds 0 = -1 := by
          rw [show (p - p).toNat = 0 by omega]; unfold sg; decide
        exact absurd this h
      · omega
    refine ⟨h1, h2, ?_⟩
    unfold lk
    rw [if_pos (by omega)]
    exact hr.2.2.1 p (by omega) h2
theorem le_lt {p : Int} (hp : p < N) (h : isL (T p) = true) : p < le T N p := by
  have hr := le_rg (T := T) (N := N) (p := p) (by omega)
  by_cases e : le T N p = p
  · have := hr.2.2.2 (by omega); rw [e, h] at this; cases this
  · omega
theorem de_lt {p : Int} (hp : p < N) (h : isG (T p) = true) : p < de T N p := by
  have hr := de_rg (T := T) (N := N) (p := p) (by omega)
  by_cases e : de T N p = p
  · have := hr.2.2.2 (by omega); rw [e, h] at this; cases this
  · omega
theorem numN_rg : ∀ (m : Nat) (p v : Int), (∀ j, p ≤ j → j < p + m → isG (T j) = true) → 0 ≤ v → 0 ≤ numN T m p v ∧ numN T m p v < (v + 1) * 10 ^ m := by
  intro m
  induction m with
  | zero => intro p v _ hv; unfold numN; omega
  | succ m ih =>
    intro p v hj hv
    unfold numN
    have := hj p (by omega) (by omega)
    unfold isG at this
    rw [decide_eq_true_iff] at this
    obtain ⟨h1, h2⟩ := ih (p + 1) (10 * v + T p - 48) (fun j a b => hj j (by omega) (by omega)) (by omega)
    refine ⟨h1, Int.lt_of_lt_of_le h2 ?_⟩
    rw [Int.pow_succ, Int.mul_comm (10 ^ m) 10, ← Int.mul_assoc]
    exact Int.mul_le_mul_of_nonneg_right (by omega) (by exact Int.le_of_lt (Int.pow_pos (by decide)))
theorem numN_end : ∀ (m : Nat) (p v : Int), numN T (m + 1) p v = 10 * numN T m p v + T (p + m) - 48 := by
  intro m
  induction m with
  | zero => intro p v; unfold numN numN; simp
  | succ m ih =>
    intro p v
    rw [numN, ih, numN, show p + 1 + (m : Int) = p + ((m + 1 : Nat) : Int) by omega]
theorem pow32 : ∀ m : Nat, m ≤ 6 → (0 : Int) < 32 ^ m ∧ (32 : Int) ^ m ≤ 1073741824 := by
  intro m hm
  have : ∀ m : Nat, m < 7 → (0 : Int) < 32 ^ m ∧ (32 : Int) ^ m ≤ 1073741824 := by decide +kernel
  exact this m (by omega)
theorem namN_rg {p : Int} : ∀ m : Nat, (∀ j, p ≤ j → j < p + m → isL (T j) = true) → 0 ≤ namN T m p ∧ namN T m p < 32 ^ m := by
  intro m
  induction m with
  | zero => intro _; unfold namN; decide
  | succ m ih =>
    intro hj
    unfold namN
    have h1 := ih (fun j a b => hj j a (by omega))
    have h2 := hj (p + m) (by omega) (by omega)
    unfold isL at h2
    rw [decide_eq_true_iff] at h2
    have h3 : (0 : Int) < 32 ^ m := Int.pow_pos (by decide)
    have h4 : 0 ≤ (T (p + m) - 96) * 32 ^ m := Int.mul_nonneg (by omega) (by omega)
    have h5 : (T (p + m) - 96) * 32 ^ m ≤ 31 * 32 ^ m := Int.mul_le_mul_of_nonneg_right (by omega) (by omega)
    rw [Int.pow_succ]
    omega
theorem sg_snoc : ∀ (m : Nat) (p : Int), sg T (m + 1) p = sg T m p ++ [T (p + m)] := by
  intro m
  induction m with
  | zero => intro p; unfold sg sg; simp
  | succ m ih =>
    intro p
    rw [sg, ih (p + 1), sg, show p + 1 + (m : Int) = p + ((m + 1 : Nat) : Int) by omega]; rfl
theorem pk32_snoc (c : Int) : ∀ l : List Int, pk32 (l ++ [c]) = pk32 l + (c - 96) * 32 ^ l.length := by
  intro l
  induction l with
  | nil => simp [pk32]
  | cons d l ih =>
    rw [List.cons_append, pk32, ih, pk32, List.length_cons, Int.pow_succ]
    rw [Int.mul_add, Int.mul_comm 32 ((c - 96) * 32 ^ l.length), Int.mul_assoc, Int.add_assoc]
theorem pk27_snoc (c : Int) (l : List Int) : pk27 (l ++ [c]) = 27 * pk27 l + (c - 96) := by
  unfold pk27; rw [List.reverse_append]; rfl
theorem pk32_sg : ∀ (m : Nat) (p : Int), pk32 (sg T m p) = namN T m p := by
  intro m
  induction m with
  | zero => intro p; rfl
  | succ m ih => intro p; rw [sg_snoc, pk32_snoc, ih, sg_len, namN]
theorem pk32_inj : ∀ (l u : List Int), (∀ c ∈ l, isL c = true) → (∀ c ∈ u, isL c = true) → pk32 l = pk32 u → l = u := by
  intro l
  induction l with
  | nil =>
    intro u _ hu h
    cases u with
    | nil => rfl
    | cons c u =>
      have h1 := hu c (List.mem_cons_self ..)
      unfold isL at h1; rw [decide_eq_true_iff] at h1
      have : pk32 ([] : List Int) = 0 := rfl
      rw [this, pk32] at h; omega
  | cons d l ih =>
    intro u hl hu h
    have h0 := hl d (List.mem_cons_self ..)
    unfold isL at h0; rw [decide_eq_true_iff] at h0
    cases u with
    | nil =>
      have : pk32 ([] : List Int) = 0 := rfl
      rw [this, pk32] at h; omega
    | cons c u =>
      have h1 := hu c (List.mem_cons_self ..)
      unfold isL at h1; rw [decide_eq_true_iff] at h1
      rw [pk32, pk32] at h
      have e1 : d = c := by omega
      rw [e1, ih u (fun x hx => hl x (List.mem_cons_of_mem _ hx)) (fun x hx => hu x (List.mem_cons_of_mem _ hx)) (by omega)]
theorem pr27_pos : ∀ l : List Int, (∀ c ∈ l, isL c = true) → 0 ≤ pr27 l ∧ pr27 l < 27 ^ l.length := by
  intro l
  induction l with
  | nil => intro _; decide
  | cons c l ih =>
    intro hl
    have h1 := hl c (List.mem_cons_self ..)
    unfold isL at h1; rw [decide_eq_true_iff] at h1
    have := ih (fun x hx => hl x (List.mem_cons_of_mem _ hx))
    rw [pr27, List.length_cons, Int.pow_succ]; omega
theorem pr27_inj : ∀ (l u : List Int), (∀ c ∈ l, isL c = true) → (∀ c ∈ u, isL c = true) → pr27 l = pr27 u → l = u := by
  intro l
  induction l with
  | nil =>
    intro u _ hu h
    cases u with
    | nil => rfl
    | cons c u =>
      have h1 := hu c (List.mem_cons_self ..)
      unfold isL at h1; rw [decide_eq_true_iff] at h1
      have : pr27 ([] : List Int) = 0 := rfl
      rw [this, pr27] at h; omega
  | cons d l ih =>
    intro u hl hu h
    have h0 := hl d (List.mem_cons_self ..)
    unfold isL at h0; rw [decide_eq_true_iff] at h0
    cases u with
    | nil =>
      have : pr27 ([] : List Int) = 0 := rfl
      rw [this, pr27] at h; omega
    | cons c u =>
      have h1 := hu c (List.mem_cons_self ..)
      unfold isL at h1; rw [decide_eq_true_iff] at h1
      rw [pr27, pr27] at h
      have e1 : d = c := by omega
      rw [e1, ih u (fun x hx => hl x (List.mem_cons_of_mem _ hx)) (fun x hx => hu x (List.mem_cons_of_mem _ hx)) (by omega)]
theorem pk27_inj {l u : List Int} (hl : ∀ c ∈ l, isL c = true) (hu : ∀ c ∈ u, isL c = true) : pk27 l = pk27 u ↔ l = u := by
  constructor
  · intro h
    have := pr27_inj l.reverse u.reverse (fun c hc => hl c (List.mem_reverse.mp hc)) (fun c hc => hu c (List.mem_reverse.mp hc)) h
    exact List.reverse_inj.mp this
  · intro h; rw [h]
theorem sg_isL {m : Nat} {p : Int} (h : ∀ j, p ≤ j → j < p + m → isL (T j) = true) : ∀ c ∈ sg T m p, isL c = true := by
  induction m generalizing p with
  | zero => intro c hc; cases hc
  | succ m ih =>
    intro c hc
    unfold sg at hc
    rcases List.mem_cons.mp hc with e | e
    · rw [e]; exact h p (by omega) (by omega)
    · exact ih (p := p + 1) (fun j a b => h j (by omega) (by omega)) c e
end LEX
