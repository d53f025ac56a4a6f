/-! roads: the shortest ways, place by place -/
def fly (R : Int → Int → Int) : Nat → Int → Int → Int
  | 0, a, b => R a b
  | k + 1, a, b => min (fly R k a b) (fly R k a k + fly R k k b)
def roK (R : Int → Int → Int) : Prop := ∀ a b, 0 ≤ a → a < 8 → 0 ≤ b → b < 8 → (0 ≤ R a b ∧ R a b ≤ 1000) ∧ R a b = R b a ∧ R a a = 0
section FLY
variable {R : Int → Int → Int}
theorem fly_ok (hR : roK R) : ∀ k : Nat, k ≤ 8 → roK (fly R k) := by
  intro k
  induction k with
  | zero => intro _; exact hR
  | succ k ih =>
    intro hk a b a0 a1 b0 b1
    have ih := ih (by omega)
    have h1 := ih a b a0 a1 b0 b1
    have h2 := ih a k a0 a1 (by omega) (by omega)
    have h3 := ih k b (by omega) (by omega) b0 b1
    have h4 := ih b a b0 b1 a0 a1
    have h5 := ih k a (by omega) (by omega) a0 a1
    have h6 := ih b k b0 b1 (by omega) (by omega)
    show (0 ≤ min (fly R k a b) (fly R k a k + fly R k k b) ∧ min (fly R k a b) (fly R k a k + fly R k k b) ≤ 1000) ∧ min (fly R k a b) (fly R k a k + fly R k k b) = min (fly R k b a) (fly R k b k + fly R k k a) ∧ min (fly R k a a) (fly R k a k + fly R k k a) = 0
    refine ⟨by omega, by omega, by omega⟩
theorem fly_l (hR : roK R) {k : Nat} (hk : k < 8) {a : Int} (a0 : 0 ≤ a) (a1 : a < 8) : fly R (k + 1) a k = fly R k a k := by
  have h1 := fly_ok hR k (by omega) a k a0 a1 (by omega) (by omega)
  have h2 := fly_ok hR k (by omega) k k (by omega) (by omega) (by omega) (by omega)
  show min (fly R k a k) (fly R k a k + fly R k k k) = _
  omega
theorem fly_r (hR : roK R) {k : Nat} (hk : k < 8) {a : Int} (a0 : 0 ≤ a) (a1 : a < 8) : fly R (k + 1) k a = fly R k k a := by
  have h1 := fly_ok hR k (by omega) k a (by omega) (by omega) a0 a1
  have h2 := fly_ok hR k (by omega) k k (by omega) (by omega) (by omega) (by omega)
  show min (fly R k k a) (fly R k k k + fly R k k a) = _
  omega
/-- through a place that was taken there is no shorter way -/
theorem fly_tri (hR : roK R) : ∀ k : Nat, k ≤ 8 → ∀ (a b i : Int), 0 ≤ a → a < 8 → 0 ≤ b → b < 8 → 0 ≤ i → i < (k : Int) → fly R k a b ≤ fly R k a i + fly R k i b := by
  intro k
  induction k with
  | zero => intro _ a b i _ _ _ _ i0 i1; omega
  | succ k ih =>
    intro hk a b i a0 a1 b0 b1 i0 i1
    have ok := fly_ok hR k (by omega)
    by_cases ei : i = k
    · rw [ei, fly_l hR (by omega) a0 a1, fly_r hR (by omega) b0 b1]
      show min (fly R k a b) (fly R k a k + fly R k k b) ≤ _
      omega
    · have t := ih (by omega)
      have h1 := t a b i a0 a1 b0 b1 i0 (by omega)
      have h2 := t k b i (by omega) (by omega) b0 b1 i0 (by omega)
      have h3 := t a k i a0 a1 (by omega) (by omega) i0 (by omega)
      have g1 := (ok k i (by omega) (by omega) i0 (by omega)).1
      have g2 := (ok i k i0 (by omega) (by omega) (by omega)).1
      show min (fly R k a b) (fly R k a k + fly R k k b) ≤ min (fly R k a i) (fly R k a k + fly R k k i) + min (fly R k i b) (fly R k i k + fly R k k b)
      omega
/-- places that no road has stay out of reach -/
theorem fly_un (hR : roK R) {n : Int} (hn : 0 ≤ n) (hu : ∀ a b, 0 ≤ a → a < 8 → 0 ≤ b → b < 8 → ¬ a = b → n ≤ a ∨ n ≤ b → R a b = 1000) : ∀ k : Nat, k ≤ 8 → ∀ a b, 0 ≤ a → a < 8 → 0 ≤ b → b < 8 → ¬ a = b → n ≤ a ∨ n ≤ b → fly R k a b = 1000 := by
  intro k
  induction k with
  | zero => intro _; exact hu
  | succ k ih =>
    intro hk a b a0 a1 b0 b1 hab ho
    have ok := fly_ok hR k (by omega)
    have h1 := ih (by omega) a b a0 a1 b0 b1 hab ho
    have h2 := ok a k a0 a1 (by omega) (by omega)
    have h3 := ok k b (by omega) (by omega) b0 b1
    show min (fly R k a b) (fly R k a k + fly R k k b) = 1000
    have key : 1000 ≤ fly R k a k + fly R k k b := by
      by_cases e1 : a = k
      · rw [e1] at h1 h2 ⊢; omega
      · by_cases e2 : (k : Int) = b
        · rw [← e2] at h1 h3 ⊢; omega
        · rcases ho with o | o
          · have := ih (by omega) a k a0 a1 (by omega) (by omega) e1 (Or.inl o); omega
          · have := ih (by omega) k b (by omega) (by omega) b0 b1 e2 (Or.inr o); omega
    omega
/-- so they may be left out -/
theorem fly_cut (hR : roK R) {n : Int} (hn : 0 ≤ n) (hu : ∀ a b, 0 ≤ a → a < 8 → 0 ≤ b → b < 8 → ¬ a = b → n ≤ a ∨ n ≤ b → R a b = 1000) {a b : Int} (ha : 0 ≤ a ∧ a < n) (hb : 0 ≤ b ∧ b < n) : ∀ k : Nat, n.toNat ≤ k → k ≤ 8 → fly R k a b = fly R n.toNat a b := by
  intro k
  induction k with
  | zero => intro h1 _; rw [show n.toNat = 0 by omega]
  | succ k ih =>
    intro h1 h2
    by_cases e : n.toNat = k + 1
    · rw [e]
    · rw [← ih (by omega) (by omega)]
      have ok := fly_ok hR k (by omega)
      have g1 := fly_un hR hn hu k (by omega) a k ha.1 (by omega) (by omega) (by omega) (by omega) (Or.inr (by omega))
      have g2 := ok k b (by omega) (by omega) hb.1 (by omega)
      have g3 := ok a b ha.1 (by omega) hb.1 (by omega)
      show min (fly R k a b) (fly R k a k + fly R k k b) = _
      omega
end FLY
/-! the class's part of it -/
section FLY2
variable {D : q_D} {f f' S : q_F} {A : q_As} {g h : Int} {R : Int → Int → Int}
/-- the state with places below k taken, in phase k rows below a and b places of row a -/
def flS (R : Int → Int → Int) (n : Int) (k : Nat) (a b x y : Int) : Int := if (0 ≤ x ∧ x < n) ∧ 0 ≤ y ∧ y < n then (if x < a ∨ (x = a ∧ y < b) then fly R (k + 1) x y else fly R k x y) else R x y
theorem ok_joinRoads (hh : q_G h) {n : Int} (hn : 0 ≤ n ∧ n ≤ 8) (hc : f (h + 1) 3 = n) (hRo : roK R) (hf : ∀ a b, 0 ≤ a → a < 8 → 0 ≤ b → b < 8 → f (h + 37 + a) b = R a b) : OkV D m_gd_joinRoads [vr D h] (Zg g h) f (fun f' => (∀ a b, 0 ≤ a → a < n → 0 ≤ b → b < n → f' (h + 37 + a) b = fly R n.toNat a b) ∧ ∀ j k, ¬ (h + 37 ≤ j ∧ j < h + 45) → f' j k = f j k) := by
  have hg2 := q_G51 hh
  refine OkV_of (L0 := [vr D h, vu, vu, vu, vu]) mi_gd_joinRoads rfl rfl (Nat.le_of_ble_eq_true rfl) (fun C hR => ?_)
  have fin : ∀ (k : Nat) (a b : Int), a = n → (k : Int) < n → ∀ x y, flS R n k a b x y = flS R n (k + 1) 0 0 x y := fun k a b ha hk x y => by
    unfold flS
    by_cases h1 : (0 ≤ x ∧ x < n) ∧ 0 ≤ y ∧ y < n
    · rw [if_pos h1, if_pos h1, if_pos (by omega), if_neg (by omega)]
    · rw [if_neg h1, if_neg h1]
  have l3 : ∀ (m : Nat) (k : Nat) (a b : Int) (F : q_F) (u : Value), b + m = n → 0 ≤ b → 0 ≤ a → a < n → (k : Int) < n → (∀ x y, 0 ≤ x → x < 8 → 0 ≤ y → y < 8 → F (h + 37 + x) y = flS R n k a b x y) → (∀ j k, ¬ (h + 37 ≤ j ∧ j < h + 45) → F j k = f j k) → (∀ (F' : q_F) (u v : Value), (∀ x y, 0 ≤ x → x < 8 → 0 ≤ y → y < 8 → F' (h + 37 + x) y = flS R n k (a + 1) 0 x y) → (∀ j k, ¬ (h + 37 ≤ j ∧ j < h + 45) → F' j k = f j k) → V D C m_gd_joinRoads 14 [vr D h, vi k, vi (a + 1), u, v] [] (Zg g h) F') → V D C m_gd_joinRoads 26 [vr D h, vi k, vi a, vi b, u] [] (Zg g h) F := by
    intro m
    induction m with
    | zero =>
      intro k a b F u hm b0 a0 a1 hk hF hfr K
      have c3 : F (h + 1) 3 = n := by rw [hfr _ _ (by omega)]; exact hc
      refine V_iload_3 d_gd_joinRoads_26 ?_
      refine V_aload_0 d_gd_joinRoads_27 ?_
      refine V_getR d_gd_joinRoads_28 fl_gd_9 (is_gd hh) (r_gd_counts hh) ?_
      refine V_iconst 3 d_gd_joinRoads_31 ?_
      refine V_iald d_gd_joinRoads_32 (is_gd_counts hh) (by omega) (by omega) ?_
      rw [c3]
      refine V_icmp_ge 82 d_gd_joinRoads_33 (by decide) (by omega) (by omega) (fun c33 => ?_) (fun c33 => by omega)
      refine V_iinc_2 d_gd_joinRoads_82 rfl ?_
      refine V_goto 14 d_gd_joinRoads_85 (by decide) ?_
      refine K F _ _ (fun x y x0 x1 y0 y1 => ?_) hfr
      rw [hF x y x0 x1 y0 y1]
      unfold flS
      by_cases h1 : (0 ≤ x ∧ x < n) ∧ 0 ≤ y ∧ y < n
      · rw [if_pos h1, if_pos h1]
        by_cases h2 : x < a + 1
        · rw [if_pos (by omega), if_pos (by omega)]
        · rw [if_neg (by omega), if_neg (by omega)]
      · rw [if_neg h1, if_neg h1]
    | succ m ih =>
      intro k a b F u hm b0 a0 a1 hk hF hfr K
      have c3 : F (h + 1) 3 = n := by rw [hfr _ _ (by omega)]; exact hc
      have ok := fly_ok hRo k (by omega)
      have r1 : F (h + 37 + a) k = fly R k a k := by
        rw [hF a k a0 (by omega) (by omega) (by omega)]; unfold flS
        rw [if_pos (by omega)]
        split
        · exact fly_l hRo (by omega) a0 (by omega)
        · rfl
      have r2 : F (h + 37 + k) b = fly R k k b := by
        rw [hF k b (by omega) (by omega) b0 (by omega)]; unfold flS
        rw [if_pos (by omega)]
        split
        · exact fly_r hRo (by omega) b0 (by omega)
        · rfl
      have r3 : F (h + 37 + a) b = fly R k a b := by
        rw [hF a b a0 (by omega) b0 (by omega)]; unfold flS
        rw [if_pos (by omega), if_neg (by omega)]
      have g1 := (ok a k a0 (by omega) (by omega) (by omega)).1
      have g2 := (ok k b (by omega) (by omega) b0 (by omega)).1
      have g3 := (ok a b a0 (by omega) b0 (by omega)).1
      refine V_iload_3 d_gd_joinRoads_26 ?_
      refine V_aload_0 d_gd_joinRoads_27 ?_
      refine V_getR d_gd_joinRoads_28 fl_gd_9 (is_gd hh) (r_gd_counts hh) ?_
      refine V_iconst 3 d_gd_joinRoads_31 ?_
      refine V_iald d_gd_joinRoads_32 (is_gd_counts hh) (by omega) (by omega) ?_
      rw [c3]
      refine V_icmp_ge 82 d_gd_joinRoads_33 (by decide) (by omega) (by omega) (fun c33 => by omega) (fun c33 => ?_)
      refine V_aload_0 d_gd_joinRoads_36 ?_
      refine V_getR d_gd_joinRoads_37 fl_gd_35 (is_gd hh) (r_gd_hours hh) ?_
      refine V_iload_2 d_gd_joinRoads_40 ?_
      refine V_aald d_gd_joinRoads_41 (is_gd_hours hh) (by omega) (by omega) (r_gd_hoursrow hh (by omega)) ?_
      refine V_iload_1 d_gd_joinRoads_42 ?_
      refine V_iald d_gd_joinRoads_43 (is_gd_hours_row hh (by omega)) (by omega) (by omega) ?_
      rw [r1]
      refine V_aload_0 d_gd_joinRoads_44 ?_
      refine V_getR d_gd_joinRoads_45 fl_gd_35 (is_gd hh) (r_gd_hours hh) ?_
      refine V_iload_1 d_gd_joinRoads_48 ?_
      refine V_aald d_gd_joinRoads_49 (is_gd_hours hh) (by omega) (by omega) (r_gd_hoursrow hh (by omega)) ?_
      refine V_iload_3 d_gd_joinRoads_50 ?_
      refine V_iald d_gd_joinRoads_51 (is_gd_hours_row hh (by omega)) (by omega) (by omega) ?_
      rw [r2]
      refine V_iadd d_gd_joinRoads_52 ?_
      refine V_istore_4 d_gd_joinRoads_53 rfl ?_
      refine V_aload_0 d_gd_joinRoads_55 ?_
      refine V_getR d_gd_joinRoads_56 fl_gd_35 (is_gd hh) (r_gd_hours hh) ?_
      refine V_iload_2 d_gd_joinRoads_59 ?_
      refine V_aald d_gd_joinRoads_60 (is_gd_hours hh) (by omega) (by omega) (r_gd_hoursrow hh (by omega)) ?_
      refine V_iload_3 d_gd_joinRoads_61 ?_
      refine V_aload_0 d_gd_joinRoads_62 ?_
      refine V_getR d_gd_joinRoads_63 fl_gd_35 (is_gd hh) (r_gd_hours hh) ?_
      refine V_iload_2 d_gd_joinRoads_66 ?_
      refine V_aald d_gd_joinRoads_67 (is_gd_hours hh) (by omega) (by omega) (r_gd_hoursrow hh (by omega)) ?_
      refine V_iload_3 d_gd_joinRoads_68 ?_
      refine V_iald d_gd_joinRoads_69 (is_gd_hours_row hh (by omega)) (by omega) (by omega) ?_
      rw [r3]
      refine V_iload_4 d_gd_joinRoads_70 ?_
      refine V_csI2 d_gd_joinRoads_72 ml_gd_71 ms_jm_min (by decide) (Nat.le_of_ble_eq_true rfl) (ok_min (by omega) (by omega)) ?_
      rintro _ f2 ⟨rfl, e2⟩
      rw [e2]; clear e2 f2
      refine V_iast d_gd_joinRoads_75 (is_gd_hours_row hh (by omega)) (by omega) (by omega) ?_
      refine V_iinc_3 d_gd_joinRoads_76 rfl ?_
      refine V_goto 26 d_gd_joinRoads_79 (by decide) ?_
      refine ih k a (b + 1) _ _ (by omega) (by omega) a0 a1 hk (fun x y x0 x1 y0 y1 => ?_) (fun j i hj => by rw [q_up_ne (by omega)]; exact hfr j i hj) K
      by_cases e : x = a ∧ y = b
      · rw [e.1, e.2, q_up_eq]; unfold flS
        rw [if_pos (by omega), if_pos (by omega)]; rfl
      · rw [q_up_ne (by omega), hF x y x0 x1 y0 y1]; unfold flS
        by_cases h1 : (0 ≤ x ∧ x < n) ∧ 0 ≤ y ∧ y < n
        · rw [if_pos h1, if_pos h1]
          by_cases h2 : x < a ∨ (x = a ∧ y < b)
          · rw [if_pos h2, if_pos (by omega)]
          · rw [if_neg h2, if_neg (by omega)]
        · rw [if_neg h1, if_neg h1]
  have l2 : ∀ (m : Nat) (k : Nat) (a : Int) (F : q_F) (u v : Value), a + m = n → 0 ≤ a → (k : Int) < n → (∀ x y, 0 ≤ x → x < 8 → 0 ≤ y → y < 8 → F (h + 37 + x) y = flS R n k a 0 x y) → (∀ j k, ¬ (h + 37 ≤ j ∧ j < h + 45) → F j k = f j k) → (∀ (F' : q_F) (t u v : Value), (∀ x y, 0 ≤ x → x < 8 → 0 ≤ y → y < 8 → F' (h + 37 + x) y = flS R n (k + 1) 0 0 x y) → (∀ j k, ¬ (h + 37 ≤ j ∧ j < h + 45) → F' j k = f j k) → V D C m_gd_joinRoads 2 [vr D h, vi ((k : Int) + 1), t, u, v] [] (Zg g h) F') → V D C m_gd_joinRoads 14 [vr D h, vi k, vi a, u, v] [] (Zg g h) F := by
    intro m
    induction m with
    | zero =>
      intro k a F u v hm a0 hk hF hfr K
      have c3 : F (h + 1) 3 = n := by rw [hfr _ _ (by omega)]; exact hc
      refine V_iload_2 d_gd_joinRoads_14 ?_
      refine V_aload_0 d_gd_joinRoads_15 ?_
      refine V_getR d_gd_joinRoads_16 fl_gd_9 (is_gd hh) (r_gd_counts hh) ?_
      refine V_iconst 3 d_gd_joinRoads_19 ?_
      refine V_iald d_gd_joinRoads_20 (is_gd_counts hh) (by omega) (by omega) ?_
      rw [c3]
      refine V_icmp_ge 88 d_gd_joinRoads_21 (by decide) (by omega) (by omega) (fun c21 => ?_) (fun c21 => by omega)
      refine V_iinc_1 d_gd_joinRoads_88 rfl ?_
      refine V_goto 2 d_gd_joinRoads_91 (by decide) ?_
      exact K F _ _ _ (fun x y x0 x1 y0 y1 => by rw [hF x y x0 x1 y0 y1]; exact fin k a 0 (by omega) hk x y) hfr
    | succ m ih =>
      intro k a F u v hm a0 hk hF hfr K
      have c3 : F (h + 1) 3 = n := by rw [hfr _ _ (by omega)]; exact hc
      refine V_iload_2 d_gd_joinRoads_14 ?_
      refine V_aload_0 d_gd_joinRoads_15 ?_
      refine V_getR d_gd_joinRoads_16 fl_gd_9 (is_gd hh) (r_gd_counts hh) ?_
      refine V_iconst 3 d_gd_joinRoads_19 ?_
      refine V_iald d_gd_joinRoads_20 (is_gd_counts hh) (by omega) (by omega) ?_
      rw [c3]
      refine V_icmp_ge 88 d_gd_joinRoads_21 (by decide) (by omega) (by omega) (fun c21 => by omega) (fun c21 => ?_)
      refine V_iconst 0 d_gd_joinRoads_24 ?_
      refine V_istore_3 d_gd_joinRoads_25 rfl ?_
      exact l3 n.toNat k a _ F _ (by omega) (by decide) a0 (by omega) hk hF hfr (fun F' u v h1 h2 => ih k (a + 1) F' u v (by omega) (by omega) hk h1 h2 K)
  have l1 : ∀ (m : Nat) (k : Nat) (F : q_F) (t u v : Value), (k : Int) + m = n → (∀ x y, 0 ≤ x → x < 8 → 0 ≤ y → y < 8 → F (h + 37 + x) y = flS R n k 0 0 x y) → (∀ j k, ¬ (h + 37 ≤ j ∧ j < h + 45) → F j k = f j k) → V D C m_gd_joinRoads 2 [vr D h, vi k, t, u, v] [] (Zg g h) F := by
    intro m
    induction m with
    | zero =>
      intro k F t u v hm hF hfr
      have c3 : F (h + 1) 3 = n := by rw [hfr _ _ (by omega)]; exact hc
      refine V_iload_1 d_gd_joinRoads_2 ?_
      refine V_aload_0 d_gd_joinRoads_3 ?_
      refine V_getR d_gd_joinRoads_4 fl_gd_9 (is_gd hh) (r_gd_counts hh) ?_
      refine V_iconst 3 d_gd_joinRoads_7 ?_
      refine V_iald d_gd_joinRoads_8 (is_gd_counts hh) (by omega) (by omega) ?_
      rw [c3]
      refine V_icmp_ge 94 d_gd_joinRoads_9 (by decide) (by omega) (by omega) (fun c9 => ?_) (fun c9 => by omega)
      refine V_return d_gd_joinRoads_94 (hR _ ?_)
      refine ⟨fun a b a0 a1 b0 b1 => ?_, hfr⟩
      rw [hF a b a0 (by omega) b0 (by omega)]; unfold flS
      rw [if_pos (by omega), if_neg (by omega), show n.toNat = k by omega]
    | succ m ih =>
      intro k F t u v hm hF hfr
      have c3 : F (h + 1) 3 = n := by rw [hfr _ _ (by omega)]; exact hc
      refine V_iload_1 d_gd_joinRoads_2 ?_
      refine V_aload_0 d_gd_joinRoads_3 ?_
      refine V_getR d_gd_joinRoads_4 fl_gd_9 (is_gd hh) (r_gd_counts hh) ?_
      refine V_iconst 3 d_gd_joinRoads_7 ?_
      refine V_iald d_gd_joinRoads_8 (is_gd_counts hh) (by omega) (by omega) ?_
      rw [c3]
      refine V_icmp_ge 94 d_gd_joinRoads_9 (by decide) (by omega) (by omega) (fun c9 => by omega) (fun c9 => ?_)
      refine V_iconst 0 d_gd_joinRoads_12 ?_
      refine V_istore_2 d_gd_joinRoads_13 rfl ?_
      exact l2 n.toNat k _ F _ _ (by omega) (by decide) (by omega) hF hfr (fun F' t u v h1 h2 => ih (k + 1) F' t u v (by push_cast; omega) h1 h2)
  refine V_iconst 0 d_gd_joinRoads_0 ?_
  refine V_istore_1 d_gd_joinRoads_1 rfl ?_
  refine l1 n.toNat 0 f _ _ _ (by push_cast; omega) (fun x y x0 x1 y0 y1 => ?_) (fun _ _ _ => rfl)
  rw [hf x y x0 x1 y0 y1]; unfold flS
  split
  · rw [if_neg (by omega)]; rfl
  · rfl
end FLY2
