/-! THE STATE in words of its own, and how each side holds it.
A 0 k 0: how many (0 traits, 1 persons, 2 shades, 3 places, 4 sightings, 5 rules), A 0 6 0 the tithe; A 1 (8 kind + which) k: letter k of a name; A 2 t w: how much a trait shows; A 3 p t: looks; A 4 s t: own; A 5 s t: fakes; A 6 a b: far (1000: not to be reached);
A 7 s k: a sighting (0 person, 1 place, 2 hour, 3 light, 4 rain); A 8 sh s: pass; A 9 sh s: price; A 10 sh 0: fee; A 11 s 0: its shade; A 12 n s: the shades ahead of the n-th latest act; A 13 0 k: 0 acts, 1 fault, 2 its place, 3 bytes on the tape, 4 the drawn number, 5 bytes of the image; A 14 k 0: the tape; A 15 k 0: the image; A 16 k 0: the k-th sighting by hour -/
abbrev q_As : Type := Nat → Int → Int → Int
abbrev nT (A : q_As) : Int := A 0 0 0
abbrev nP (A : q_As) : Int := A 0 1 0
abbrev nH (A : q_As) : Int := A 0 2 0
abbrev nL (A : q_As) : Int := A 0 3 0
abbrev nS (A : q_As) : Int := A 0 4 0
def iabs (x : Int) : Int := if x < 0 then -x else x
/-- a body that is in a place at an hour can be at a sighting -/
def near (A : q_As) (place hour t : Int) : Bool := decide (A 6 place (A 7 t 1) ≤ iabs (hour - A 7 t 2))
def can (A : q_As) (s t : Int) : Bool := near A (A 7 s 1) (A 7 s 2) t
/-- what a guild's text tells is as it can be -/
def Wg (A : q_As) : Prop :=
  ((0 ≤ A 0 0 0 ∧ A 0 0 0 ≤ 6) ∧ (0 ≤ A 0 1 0 ∧ A 0 1 0 ≤ 8) ∧ (0 ≤ A 0 2 0 ∧ A 0 2 0 ≤ 5) ∧ (0 ≤ A 0 3 0 ∧ A 0 3 0 ≤ 8) ∧ (0 ≤ A 0 4 0 ∧ A 0 4 0 ≤ 24) ∧ (0 ≤ A 0 5 0 ∧ A 0 5 0 ≤ 6) ∧ (0 ≤ A 0 6 0 ∧ A 0 6 0 ≤ 100)) ∧
  (∀ s, 0 ≤ s → s < A 0 4 0 → (0 ≤ A 7 s 0 ∧ A 7 s 0 < A 0 1 0) ∧ (0 ≤ A 7 s 1 ∧ A 7 s 1 < A 0 3 0) ∧ (0 ≤ A 7 s 2 ∧ A 7 s 2 ≤ 99) ∧ (0 ≤ A 7 s 3 ∧ A 7 s 3 ≤ 100) ∧ (0 ≤ A 7 s 4 ∧ A 7 s 4 ≤ 1)) ∧
  (∀ a b, 0 ≤ a → a < A 0 3 0 → 0 ≤ b → b < A 0 3 0 → (0 ≤ A 6 a b ∧ A 6 a b ≤ 1000) ∧ A 6 a b = A 6 b a ∧ A 6 a a = 0 ∧ ∀ c, 0 ≤ c → c < A 0 3 0 → A 6 a c ≤ A 6 a b + A 6 b c) ∧
  (∀ h s, 0 ≤ h → h < A 0 2 0 → 0 ≤ s → s < A 0 4 0 → (0 ≤ A 8 h s ∧ A 8 h s ≤ 1000) ∧ (0 ≤ A 9 h s ∧ A 9 h s ≤ 999)) ∧
  (∀ h, 0 ≤ h → h < A 0 2 0 → 1 ≤ A 10 h 0 ∧ A 10 h 0 ≤ 99) ∧
  (∀ i, 0 ≤ i → i < A 0 4 0 → 0 ≤ A 16 i 0 ∧ A 16 i 0 < A 0 4 0) ∧
  (∀ i j, 0 ≤ i → i < j → j < A 0 4 0 → A 7 (A 16 i 0) 2 < A 7 (A 16 j 0) 2 ∨ (A 7 (A 16 i 0) 2 = A 7 (A 16 j 0) 2 ∧ A 16 i 0 < A 16 j 0)) ∧
  (∀ s, 0 ≤ s → s < A 0 4 0 → ∃ i, 0 ≤ i ∧ i < A 0 4 0 ∧ A 16 i 0 = s)
/-- the guild in the class's cells -/
def Cg (g : Int) (f : q_F) (A : q_As) : Prop :=
  (∀ k, 0 ≤ k → k < 6 → f (g + 1) k = A 0 k 0) ∧ f g 14 = A 0 6 0 ∧
  (∀ i w k, 0 ≤ i → i < 4 → 0 ≤ w → w < A 0 i 0 → 0 ≤ k → k < 6 → (0 ≤ f (g + 3 + i) w ∧ f (g + 3 + i) w < 1073741824) ∧ f (g + 3 + i) w / 32 ^ k.toNat % 32 = A 1 (8 * i + w) k) ∧
  (∀ t w, 0 ≤ t → t < A 0 0 0 → 0 ≤ w → w < 2 → f (g + 8 + t) w = A 2 t w) ∧
  (∀ p t, 0 ≤ p → p < A 0 1 0 → 0 ≤ t → t < A 0 0 0 → f (g + 15 + p) t = A 3 p t) ∧
  (∀ h t, 0 ≤ h → h < A 0 2 0 → 0 ≤ t → t < A 0 0 0 → f (g + 24 + h) t = A 4 h t ∧ f (g + 30 + h) t = A 5 h t) ∧
  (∀ h, 0 ≤ h → h < A 0 2 0 → f (g + 35) h = A 10 h 0) ∧
  (∀ a b, 0 ≤ a → a < A 0 3 0 → 0 ≤ b → b < A 0 3 0 → f (g + 37 + a) b = A 6 a b) ∧
  (∀ s k, 0 ≤ s → s < A 0 4 0 → 0 ≤ k → k < 5 → f (g + 46 + s) k = A 7 s k) ∧
  (∀ h s, 0 ≤ h → h < A 0 2 0 → 0 ≤ s → s < A 0 4 0 → f (g + 71 + h) s = A 8 h s ∧ f (g + 77 + h) s = A 9 h s) ∧
  (∀ s, 0 ≤ s → s < A 0 4 0 → f (g + 82) s = mB (fun t => decide (t < A 0 4 0) && can A s t)) ∧
  (∀ i, 0 ≤ i → i < A 0 4 0 → f (g + 83) i = A 16 i 0)
/-- what is hired, as it can be -/
def Wh (A : q_As) : Prop :=
  (∀ s, 0 ≤ s → s < A 0 4 0 → -1 ≤ A 11 s 0 ∧ A 11 s 0 < A 0 2 0) ∧
  (∀ s t, 0 ≤ s → s < A 0 4 0 → 0 ≤ t → t < A 0 4 0 → A 11 s 0 = A 11 t 0 → 0 ≤ A 11 s 0 → can A s t = true) ∧
  (0 ≤ A 13 0 0 ∧ A 13 0 0 ≤ 30) ∧
  (∀ n, 0 ≤ n → n < A 13 0 0 → (∀ s, 0 ≤ s → s < A 0 4 0 → -1 ≤ A 12 n s ∧ A 12 n s < A 0 2 0) ∧
    ∀ s t, 0 ≤ s → s < A 0 4 0 → 0 ≤ t → t < A 0 4 0 → A 12 n s = A 12 n t → 0 ≤ A 12 n s → can A s t = true)
/-- the hires in the class's cells -/
def Ch (f : q_F) (A : q_As) : Prop :=
  (∀ s, 0 ≤ s → s < A 0 4 0 → f 11 s = A 11 s 0) ∧ f 10 3 = A 13 0 0 ∧ (0 ≤ f 10 2 ∧ f 10 2 < 30) ∧
  (∀ n s, 0 ≤ n → n < A 13 0 0 → 0 ≤ s → s < A 0 4 0 → f (13 + (f 10 2 + A 13 0 0 - 1 - n) % 30) s = A 12 n s)
/-- tape, fault, drawn number, image: as they can be -/
def Wt (A : q_As) : Prop :=
  (0 ≤ A 13 0 3 ∧ A 13 0 3 ≤ 1600) ∧ (∀ k, 0 ≤ k → k < A 13 0 3 → 0 ≤ A 14 k 0 ∧ A 14 k 0 ≤ 255) ∧
  (0 ≤ A 13 0 1 ∧ A 13 0 1 ≤ 5) ∧ (-1 ≤ A 13 0 2 ∧ A 13 0 2 ≤ 1600) ∧ (0 ≤ A 13 0 4 ∧ A 13 0 4 < 2147483648) ∧ (0 ≤ A 13 0 5 ∧ A 13 0 5 ≤ 25) ∧
  (∀ k, 0 ≤ k → k < A 13 0 5 → -2147483648 ≤ A 15 k 0 ∧ A 15 k 0 < 2147483648)
def Ct (f : q_F) (A : q_As) : Prop :=
  f 1 1 = A 13 0 3 ∧ (∀ k, 0 ≤ k → k < A 13 0 3 → f 2 k = A 14 k 0) ∧ f 1 3 = A 13 0 1 ∧ f 1 4 = A 13 0 2 ∧ f 0 7 = A 13 0 4 ∧ f 0 6 = A 13 0 5 ∧ (∀ k, 0 ≤ k → k < A 13 0 5 → f 50 k = A 15 k 0)
def Wf (A : q_As) : Prop := Wg A ∧ Wh A ∧ Wt A
def Cst (g : Int) (f : q_F) (A : q_As) : Prop := q_G g ∧ Cg g f A ∧ Ch f A ∧ Ct f A
/-- the same in the reference's cells -/
def Mg (f : q_F) (A : q_As) : Prop :=
  (f 246 7 = A 0 0 0 ∧ f 246 8 = A 0 1 0 ∧ f 246 9 = A 0 2 0 ∧ f 246 10 = A 0 3 0 ∧ f 246 12 = A 0 4 0 ∧ f 246 13 = A 0 5 0) ∧ f 219 45 = A 0 6 0 ∧
  (∀ i w, 0 ≤ i → i < 4 → 0 ≤ w → w < A 0 i 0 → ∃ n : Int, 0 < n ∧ n ≤ 6 ∧ (∀ k, 0 ≤ k → k < n → 1 ≤ A 1 (8 * i + w) k ∧ A 1 (8 * i + w) k ≤ 26) ∧ (∀ k, n ≤ k → k < 6 → A 1 (8 * i + w) k = 0) ∧
    (0 < f 247 (32 + 8 * i + w) ∧ f 247 (32 + 8 * i + w) < 387420489) ∧ (∀ k, 0 ≤ k → k < n → f 247 (32 + 8 * i + w) / 27 ^ (n - 1 - k).toNat % 27 = A 1 (8 * i + w) k) ∧ f 247 (32 + 8 * i + w) < 27 ^ n.toNat) ∧
  (∀ t w, 0 ≤ t → t < A 0 0 0 → 0 ≤ w → w < 2 → f 248 (12 + 6 * w + t) = A 2 t w) ∧
  (∀ p t, 0 ≤ p → p < A 0 1 0 → 0 ≤ t → t < A 0 0 0 → f 249 (48 + 6 * p + t) = A 3 p t) ∧
  (∀ h t, 0 ≤ h → h < A 0 2 0 → 0 ≤ t → t < A 0 0 0 → f 250 (30 + 6 * h + t) = A 4 h t ∧ f 251 (30 + 6 * h + t) = A 5 h t) ∧
  (∀ h, 0 ≤ h → h < A 0 2 0 → f 252 (5 + h) = A 10 h 0) ∧
  (∀ a b, 0 ≤ a → a < A 0 3 0 → 0 ≤ b → b < A 0 3 0 → f 253 (64 + 8 * a + b) = A 6 a b) ∧
  (∀ s k, 0 ≤ s → s < A 0 4 0 → 0 ≤ k → k < 5 → f 254 (120 + 5 * s + k) = A 7 s k) ∧
  (∀ h s, 0 ≤ h → h < A 0 2 0 → 0 ≤ s → s < A 0 4 0 → f 262 (24 * h + s) = A 8 h s ∧ f 263 (24 * h + s) = A 9 h s) ∧
  (∀ s, 0 ≤ s → s < A 0 4 0 → f 265 s = mB (fun t => decide (t < A 0 4 0) && can A s t))
def Mh (f : q_F) (A : q_As) : Prop :=
  (∀ s, 0 ≤ s → s < A 0 4 0 → f 264 s = A 11 s 0) ∧ f 219 64 = A 13 0 0 ∧ (0 ≤ f 219 65 ∧ f 219 65 < 30) ∧
  (∀ n s, 0 ≤ n → n < A 13 0 0 → 0 ≤ s → s < A 0 4 0 → f 266 (24 * ((f 219 65 + 30 - n) % 30) + s) = A 12 n s)
def Mt (f : q_F) (A : q_As) : Prop :=
  f 219 1 = A 13 0 3 ∧ (∀ k, 0 ≤ k → k < A 13 0 3 → f 220 k = A 14 k 0) ∧ f 219 7 = A 13 0 1 ∧ f 219 8 = A 13 0 2 ∧ f 219 73 = A 13 0 4 ∧ f 219 75 = A 13 0 5 ∧ (∀ k, 0 ≤ k → k < A 13 0 5 → f 273 k = A 15 k 0)
def Mst (f : q_F) (A : q_As) : Prop := Mg f A ∧ Mh f A ∧ Mt f A
/-- the other side's cells stay -/
def q_lo (f f' : q_F) : Prop := ∀ j k, 219 ≤ j → f' j k = f j k
def q_hi (f f' : q_F) : Prop := ∀ j k, (j < 219 ∨ (221 ≤ j ∧ j ≤ 245)) → f' j k = f j k
