/-! the class: what all bodies make of a set with one more -/
section HS10
variable {D : q_D} {f f' : q_F} {A : q_As} {g h : Int}
theorem sub_le {s x : Nat} (h : x &&& s = x) : x ≤ s ∧ s ^^^ x ≤ s := by
  have e : (s ^^^ x) &&& s = s ^^^ x := Nat.eq_of_testBit_eq (fun i => by
    rw [Nat.testBit_and, Nat.testBit_xor]
    have := congrArg (fun n => n.testBit i) h
    simp only [Nat.testBit_and] at this
    cases h1 : s.testBit i <;> cases h2 : x.testBit i <;> simp_all)
  have h1 : x &&& s ≤ s := Nat.and_le_right
  have h2 : (s ^^^ x) &&& s ≤ s := Nat.and_le_right
  omega
theorem subsOk_cons {s x y : Nat} {r : List Nat} (h : subsOk s (x :: y :: r) = true) : ¬ x = 0 ∧ (x - 1) &&& s = y ∧ x &&& s = x ∧ subsOk s (y :: r) = true := by
  rw [subsOk] at h
  simp at h
  exact ⟨h.1.1.1, h.1.1.2, h.1.2, h.2⟩
theorem ok_waysWithPart {s : Nat} (hs : s < 256) (hp : ∀ y : Nat, y ≤ s → -1 ≤ f 49 y ∧ f 49 y < 2147483648) : OkI D m_cr_waysWithPart [vr D 45, vi s] (Zg g h) f (fun x f' => x = lfo (fun a b : Int => a + b) 0 (fun y => if f 49 y = -1 then 0 else f 48 ((s ^^^ y : Nat) : Int)) (subs 8 s 0) ∧ f' = f) := by
  obtain ⟨hok, hhd⟩ := subs_ok s hs
  generalize hl : subs 8 s 0 = L at *
  generalize hTT : lfo (fun a b : Int => a + b) 0 (fun y => if f 49 y = -1 then 0 else f 48 ((s ^^^ y : Nat) : Int)) L = T at *
  refine OkI_of (L0 := [vr D 45, vi s, vu, vu]) mi_cr_waysWithPart rfl rfl (Nat.le_of_ble_eq_true rfl) (fun C hR => ?_)
  have fin : ∀ w : Int, w = T → V D C m_cr_waysWithPart 4 [vr D 45, vi s, vi w, vi (-1)] [] (Zg g h) f := by
    intro w hw
    refine V_iload_3 d_cr_waysWithPart_4 ?_
    refine V_if_lt 46 d_cr_waysWithPart_5 (by decide) (by omega) (fun c5 => ?_) (fun c5 => by omega)
    refine V_iload_2 d_cr_waysWithPart_46 ?_
    refine V_ireturn d_cr_waysWithPart_47 (hR _ _ ?_)
    exact ⟨hw, rfl⟩
  have loop : ∀ (l : List Nat) (x : Nat) (w : Int), subsOk s (x :: l) = true → w + lfo (fun a b : Int => a + b) 0 (fun y => if f 49 y = -1 then 0 else f 48 ((s ^^^ y : Nat) : Int)) (x :: l) = T → V D C m_cr_waysWithPart 4 [vr D 45, vi s, vi w, vi x] [] (Zg g h) f := by
    intro l
    induction l with
    | nil =>
      intro x w hx hw
      have x0 : x = 0 := by rw [subsOk] at hx; simpa using hx
      subst x0
      have hp0 := hp 0 (by omega)
      rw [lfo, lfo] at hw
      have ex : q_xor s ((0 : Nat) : Int) = ((s ^^^ 0 : Nat) : Int) := q_xorM (by omega) (by omega)
      have e2 : s ^^^ 0 = s := Nat.xor_zero s
      refine V_iload_3 d_cr_waysWithPart_4 ?_
      refine V_if_lt 46 d_cr_waysWithPart_5 (by decide) (by omega) (fun c5 => by omega) (fun c5 => ?_)
      refine V_aload_0 d_cr_waysWithPart_8 ?_
      refine V_getR d_cr_waysWithPart_9 fl_cr_21 is_cr r_cr_part ?_
      refine V_iload_3 d_cr_waysWithPart_12 ?_
      refine V_iald d_cr_waysWithPart_13 is_cr_part (by omega) (by omega) ?_
      refine V_iconst (-1) d_cr_waysWithPart_14 ?_
      refine V_icmp_eq 29 d_cr_waysWithPart_15 (by decide) (by omega) (by omega) (fun c15 => ?_) (fun c15 => ?_)
      · skip
        rw [if_pos c15] at hw
        refine V_iload_3 d_cr_waysWithPart_29 ?_
        refine V_if_ne 37 d_cr_waysWithPart_30 (by decide) (by omega) (fun c30 => by omega) (fun c30 => ?_)
        refine V_iconst (-1) d_cr_waysWithPart_33 ?_
        refine V_goto 42 d_cr_waysWithPart_34 (by decide) ?_
        refine V_istore_3 d_cr_waysWithPart_42 rfl ?_
        refine V_goto 4 d_cr_waysWithPart_43 (by decide) ?_
        exact fin _ (by omega)
      · skip
        rw [if_neg c15] at hw
        refine V_iload_2 d_cr_waysWithPart_18 ?_
        refine V_aload_0 d_cr_waysWithPart_19 ?_
        refine V_getR d_cr_waysWithPart_20 fl_cr_18 is_cr r_cr_table ?_
        refine V_iload_1 d_cr_waysWithPart_23 ?_
        refine V_iload_3 d_cr_waysWithPart_24 ?_
        refine V_ixor d_cr_waysWithPart_25 ?_
        rw [ex]
        refine V_iald d_cr_waysWithPart_26 is_cr_table (by omega) (by omega) ?_
        refine V_iadd d_cr_waysWithPart_27 ?_
        refine V_istore_2 d_cr_waysWithPart_28 rfl ?_
        refine V_iload_3 d_cr_waysWithPart_29 ?_
        refine V_if_ne 37 d_cr_waysWithPart_30 (by decide) (by omega) (fun c30 => by omega) (fun c30 => ?_)
        refine V_iconst (-1) d_cr_waysWithPart_33 ?_
        refine V_goto 42 d_cr_waysWithPart_34 (by decide) ?_
        refine V_istore_3 d_cr_waysWithPart_42 rfl ?_
        refine V_goto 4 d_cr_waysWithPart_43 (by decide) ?_
        exact fin _ (by omega)
    | cons y r ih =>
      intro x w hx hw
      obtain ⟨x0, x1, x2, x3⟩ := subsOk_cons hx
      have hle := sub_le x2
      have hpx := hp x hle.1
      rw [lfo] at hw
      have ex : q_xor s x = ((s ^^^ x : Nat) : Int) := q_xorM (by omega) (by omega)
      have en : q_and ((x : Int) - 1) s = y := by
        rw [show (x : Int) - 1 = ((x - 1 : Nat) : Int) by omega, q_andM (by omega) (by omega), x1]
      refine V_iload_3 d_cr_waysWithPart_4 ?_
      refine V_if_lt 46 d_cr_waysWithPart_5 (by decide) (by omega) (fun c5 => by omega) (fun c5 => ?_)
      refine V_aload_0 d_cr_waysWithPart_8 ?_
      refine V_getR d_cr_waysWithPart_9 fl_cr_21 is_cr r_cr_part ?_
      refine V_iload_3 d_cr_waysWithPart_12 ?_
      refine V_iald d_cr_waysWithPart_13 is_cr_part (by omega) (by omega) ?_
      refine V_iconst (-1) d_cr_waysWithPart_14 ?_
      refine V_icmp_eq 29 d_cr_waysWithPart_15 (by decide) (by omega) (by omega) (fun c15 => ?_) (fun c15 => ?_)
      · skip
        rw [if_pos c15] at hw
        refine V_iload_3 d_cr_waysWithPart_29 ?_
        refine V_if_ne 37 d_cr_waysWithPart_30 (by decide) (by omega) (fun c30 => ?_) (fun c30 => by omega)
        refine V_iload_3 d_cr_waysWithPart_37 ?_
        refine V_iconst 1 d_cr_waysWithPart_38 ?_
        refine V_isub d_cr_waysWithPart_39 ?_
        refine V_iload_1 d_cr_waysWithPart_40 ?_
        refine V_iand d_cr_waysWithPart_41 ?_
        rw [en]
        refine V_istore_3 d_cr_waysWithPart_42 rfl ?_
        refine V_goto 4 d_cr_waysWithPart_43 (by decide) ?_
        exact ih y _ x3 (by omega)
      · skip
        rw [if_neg c15] at hw
        refine V_iload_2 d_cr_waysWithPart_18 ?_
        refine V_aload_0 d_cr_waysWithPart_19 ?_
        refine V_getR d_cr_waysWithPart_20 fl_cr_18 is_cr r_cr_table ?_
        refine V_iload_1 d_cr_waysWithPart_23 ?_
        refine V_iload_3 d_cr_waysWithPart_24 ?_
        refine V_ixor d_cr_waysWithPart_25 ?_
        rw [ex]
        refine V_iald d_cr_waysWithPart_26 is_cr_table (by omega) (by omega) ?_
        refine V_iadd d_cr_waysWithPart_27 ?_
        refine V_istore_2 d_cr_waysWithPart_28 rfl ?_
        refine V_iload_3 d_cr_waysWithPart_29 ?_
        refine V_if_ne 37 d_cr_waysWithPart_30 (by decide) (by omega) (fun c30 => ?_) (fun c30 => by omega)
        refine V_iload_3 d_cr_waysWithPart_37 ?_
        refine V_iconst 1 d_cr_waysWithPart_38 ?_
        refine V_isub d_cr_waysWithPart_39 ?_
        refine V_iload_1 d_cr_waysWithPart_40 ?_
        refine V_iand d_cr_waysWithPart_41 ?_
        rw [en]
        refine V_istore_3 d_cr_waysWithPart_42 rfl ?_
        refine V_goto 4 d_cr_waysWithPart_43 (by decide) ?_
        exact ih y _ x3 (by omega)
  cases hL : L with
  | nil => rw [hL] at hhd; cases hhd
  | cons x r =>
    rw [hL] at hhd hok hTT
    cases hhd
    refine V_iconst 0 d_cr_waysWithPart_0 ?_
    refine V_istore_2 d_cr_waysWithPart_1 rfl ?_
    refine V_iload_1 d_cr_waysWithPart_2 ?_
    refine V_istore_3 d_cr_waysWithPart_3 rfl ?_
    exact loop r s _ hok (by omega)
theorem encv {o : Option Int} {M : Int} (h : ∀ v, o = some v → 0 ≤ v ∧ v ≤ M) : (enc o = -1 ∧ o = none) ∨ (0 ≤ enc o ∧ enc o ≤ M ∧ o = some (enc o)) := by
  cases o with
  | none => exact Or.inl ⟨rfl, rfl⟩
  | some v => have := h v rfl; exact Or.inr ⟨this.1, this.2, rfl⟩
theorem stp {w p t : Option Int} {M : Int} (hw : ∀ v, w = some v → 0 ≤ v ∧ v ≤ M) (hp : ∀ v, p = some v → 0 ≤ v ∧ v ≤ M) (ht : ∀ v, t = some v → 0 ≤ v ∧ v ≤ M) : enc (tad w (tml p t)) = if enc p = -1 ∨ enc t = -1 then enc w else if enc w = -1 ∨ enc p + enc t < enc w then enc p + enc t else enc w := by
  cases w with
  | none =>
    cases p with
    | none => rfl
    | some a =>
      have ha := hp a rfl
      cases t with
      | none => rw [if_pos (Or.inr (show enc none = -1 from rfl))]; rfl
      | some b =>
        have hb := ht b rfl
        show a + b = if a = -1 ∨ b = -1 then (-1) else if (-1 : Int) = -1 ∨ a + b < -1 then a + b else -1
        rw [if_neg (by omega), if_pos (Or.inl rfl)]
  | some u =>
    have hu := hw u rfl
    cases p with
    | none => rfl
    | some a =>
      have ha := hp a rfl
      cases t with
      | none => show u = if a = -1 ∨ (-1 : Int) = -1 then u else _; rw [if_pos (Or.inr rfl)]
      | some b =>
        have hb := ht b rfl
        show min u (a + b) = if a = -1 ∨ b = -1 then u else if u = -1 ∨ a + b < u then a + b else u
        rw [if_neg (by omega)]
        split <;> omega
theorem tad_rg {w p t : Option Int} {M : Int} (hw : ∀ v, w = some v → 0 ≤ v ∧ v ≤ 2 * M) (hp : ∀ v, p = some v → 0 ≤ v ∧ v ≤ M) (ht : ∀ v, t = some v → 0 ≤ v ∧ v ≤ M) : ∀ v, tad w (tml p t) = some v → 0 ≤ v ∧ v ≤ 2 * M := by
  intro v hv
  cases w with
  | none =>
    cases p with
    | none => cases hv
    | some a =>
      have ha := hp a rfl
      cases t with
      | none => cases hv
      | some b =>
        have hb := ht b rfl
        have : a + b = v := Option.some.inj hv
        omega
  | some u =>
    have hu := hw u rfl
    cases p with
    | none => have : u = v := Option.some.inj hv; omega
    | some a =>
      have ha := hp a rfl
      cases t with
      | none => have : u = v := Option.some.inj hv; omega
      | some b =>
        have hb := ht b rfl
        have : min u (a + b) = v := Option.some.inj hv
        omega
theorem tad_as (x y z : Option Int) : tad (tad x y) z = tad x (tad y z) := t_sr.1 x y z
theorem tad_no (x : Option Int) : tad x none = x := by cases x <;> rfl
theorem ok_cheapestWithPart {s : Nat} (hs : s < 256) (P T : Nat → Option Int) (hp : ∀ y : Nat, y ≤ s → f 49 y = enc (P y) ∧ f 48 y = enc (T y)) (hr : ∀ y : Nat, y ≤ s → (∀ v, P y = some v → 0 ≤ v ∧ v ≤ 700000000) ∧ (∀ v, T y = some v → 0 ≤ v ∧ v ≤ 700000000)) : OkI D m_cr_cheapestWithPart [vr D 45, vi s] (Zg g h) f (fun x f' => x = enc (lfo tad none (fun y => tml (P y) (T (s ^^^ y))) (subs 8 s 0)) ∧ f' = f) := by
  obtain ⟨hok, hhd⟩ := subs_ok s hs
  generalize hl : subs 8 s 0 = L at *
  generalize hTT : lfo tad none (fun y => tml (P y) (T (s ^^^ y))) L = U at *
  refine OkI_of (L0 := [vr D 45, vi s, vu, vu, vu]) mi_cr_cheapestWithPart rfl rfl (Nat.le_of_ble_eq_true rfl) (fun C hR => ?_)
  have fin : ∀ (w : Option Int) (a4 : Value), w = U → V D C m_cr_cheapestWithPart 4 [vr D 45, vi s, vi (enc w), vi (-1), a4] [] (Zg g h) f := by
    intro w a4 hw
    refine V_iload_3 d_cr_cheapestWithPart_4 ?_
    refine V_if_lt 79 d_cr_cheapestWithPart_5 (by decide) (by omega) (fun c5 => ?_) (fun c5 => by omega)
    refine V_iload_2 d_cr_cheapestWithPart_79 ?_
    refine V_ireturn d_cr_cheapestWithPart_80 (hR _ _ ?_)
    exact ⟨by rw [hw], rfl⟩
  have loop : ∀ (l : List Nat) (x : Nat) (w : Option Int) (a4 : Value), subsOk s (x :: l) = true → (∀ v, w = some v → 0 ≤ v ∧ v ≤ 1400000000) → tad w (lfo tad none (fun y => tml (P y) (T (s ^^^ y))) (x :: l)) = U → V D C m_cr_cheapestWithPart 4 [vr D 45, vi s, vi (enc w), vi x, a4] [] (Zg g h) f := by
    have gen : ∀ (x : Nat) (w : Option Int) (a4 : Value), x ≤ s → s ^^^ x ≤ s → (∀ v, w = some v → 0 ≤ v ∧ v ≤ 1400000000) → (∀ a4 : Value, V D C m_cr_cheapestWithPart 62 [vr D 45, vi s, vi (enc (tad w (tml (P x) (T (s ^^^ x))))), vi x, a4] [] (Zg g h) f) → V D C m_cr_cheapestWithPart 4 [vr D 45, vi s, vi (enc w), vi x, a4] [] (Zg g h) f := by
      intro x w a4 hx1 hx2 hw K
      have ex : q_xor s x = ((s ^^^ x : Nat) : Int) := q_xorM (by omega) (by omega)
      have eP := (hp x hx1).1
      have eT := (hp _ hx2).2
      have rP := (hr x hx1).1
      have rT := (hr _ hx2).2
      have vP := encv rP
      have vT := encv rT
      have vw := encv hw
      rw [stp (M := 1400000000) hw (fun v hv => by have := rP v hv; omega) (fun v hv => by have := rT v hv; omega)] at K
      refine V_iload_3 d_cr_cheapestWithPart_4 ?_
      refine V_if_lt 79 d_cr_cheapestWithPart_5 (by decide) (by omega) (fun c5 => by omega) (fun c5 => ?_)
      refine V_aload_0 d_cr_cheapestWithPart_8 ?_
      refine V_getR d_cr_cheapestWithPart_9 fl_cr_18 is_cr r_cr_table ?_
      refine V_iload_1 d_cr_cheapestWithPart_12 ?_
      refine V_iload_3 d_cr_cheapestWithPart_13 ?_
      refine V_ixor d_cr_cheapestWithPart_14 ?_
      rw [ex]
      refine V_iald d_cr_cheapestWithPart_15 is_cr_table (by omega) (by omega) ?_
      rw [eT]
      refine V_istore_4 d_cr_cheapestWithPart_16 rfl ?_
      refine V_aload_0 d_cr_cheapestWithPart_18 ?_
      refine V_getR d_cr_cheapestWithPart_19 fl_cr_21 is_cr r_cr_part ?_
      refine V_iload_3 d_cr_cheapestWithPart_22 ?_
      refine V_iald d_cr_cheapestWithPart_23 is_cr_part (by omega) (by omega) ?_
      rw [eP]
      refine V_iconst (-1) d_cr_cheapestWithPart_24 ?_
      refine V_icmp_eq 62 d_cr_cheapestWithPart_25 (by decide) (by omega) (by omega) (fun c25 => ?_) (fun c25 => ?_)
      · skip
        rw [if_pos (by omega)] at K
        exact K _
      · skip
        refine V_iload_4 d_cr_cheapestWithPart_28 ?_
        refine V_iconst (-1) d_cr_cheapestWithPart_30 ?_
        refine V_icmp_eq 62 d_cr_cheapestWithPart_31 (by decide) (by omega) (by omega) (fun c31 => ?_) (fun c31 => ?_)
        · skip
          rw [if_pos (by omega)] at K
          exact K _
        · skip
          refine V_iload_2 d_cr_cheapestWithPart_34 ?_
          refine V_iconst (-1) d_cr_cheapestWithPart_35 ?_
          refine V_icmp_eq 52 d_cr_cheapestWithPart_36 (by decide) (by omega) (by omega) (fun c36 => ?_) (fun c36 => ?_)
          · skip
            refine V_aload_0 d_cr_cheapestWithPart_52 ?_
            refine V_getR d_cr_cheapestWithPart_53 fl_cr_21 is_cr r_cr_part ?_
            refine V_iload_3 d_cr_cheapestWithPart_56 ?_
            refine V_iald d_cr_cheapestWithPart_57 is_cr_part (by omega) (by omega) ?_
            rw [eP]
            refine V_iload_4 d_cr_cheapestWithPart_58 ?_
            refine V_iadd d_cr_cheapestWithPart_60 ?_
            refine V_istore_2 d_cr_cheapestWithPart_61 rfl ?_
            rw [if_neg (by omega), if_pos (by omega)] at K
            exact K _
          · skip
            refine V_aload_0 d_cr_cheapestWithPart_39 ?_
            refine V_getR d_cr_cheapestWithPart_40 fl_cr_21 is_cr r_cr_part ?_
            refine V_iload_3 d_cr_cheapestWithPart_43 ?_
            refine V_iald d_cr_cheapestWithPart_44 is_cr_part (by omega) (by omega) ?_
            rw [eP]
            refine V_iload_4 d_cr_cheapestWithPart_45 ?_
            refine V_iadd d_cr_cheapestWithPart_47 ?_
            refine V_iload_2 d_cr_cheapestWithPart_48 ?_
            refine V_icmp_ge 62 d_cr_cheapestWithPart_49 (by decide) (by omega) (by omega) (fun c49 => ?_) (fun c49 => ?_)
            · skip
              rw [if_neg (by omega), if_neg (by omega)] at K
              exact K _
            · skip
              refine V_aload_0 d_cr_cheapestWithPart_52 ?_
              refine V_getR d_cr_cheapestWithPart_53 fl_cr_21 is_cr r_cr_part ?_
              refine V_iload_3 d_cr_cheapestWithPart_56 ?_
              refine V_iald d_cr_cheapestWithPart_57 is_cr_part (by omega) (by omega) ?_
              rw [eP]
              refine V_iload_4 d_cr_cheapestWithPart_58 ?_
              refine V_iadd d_cr_cheapestWithPart_60 ?_
              refine V_istore_2 d_cr_cheapestWithPart_61 rfl ?_
              rw [if_neg (by omega), if_pos (by omega)] at K
              exact K _
    intro l
    induction l with
    | nil =>
      intro x w a4 hx hw hU
      have x0 : x = 0 := by rw [subsOk] at hx; simpa using hx
      subst x0
      have e2 : s ^^^ 0 = s := Nat.xor_zero s
      rw [lfo, lfo, tad_no] at hU
      refine gen 0 w a4 (by omega) (by omega) hw (fun a4 => ?_)
      rw [hU]
      refine V_iload_3 d_cr_cheapestWithPart_62 ?_
      refine V_if_ne 70 d_cr_cheapestWithPart_63 (by decide) (by omega) (fun c63 => by omega) (fun c63 => ?_)
      refine V_iconst (-1) d_cr_cheapestWithPart_66 ?_
      refine V_goto 75 d_cr_cheapestWithPart_67 (by decide) ?_
      refine V_istore_3 d_cr_cheapestWithPart_75 rfl ?_
      refine V_goto 4 d_cr_cheapestWithPart_76 (by decide) ?_
      exact fin _ _ rfl
    | cons y r ih =>
      intro x w a4 hx hw hU
      obtain ⟨x0, x1, x2, x3⟩ := subsOk_cons hx
      have hle := sub_le x2
      rw [lfo, ← tad_as] at hU
      have en : q_and ((x : Int) - 1) s = y := by
        rw [show (x : Int) - 1 = ((x - 1 : Nat) : Int) by omega, q_andM (by omega) (by omega), x1]
      refine gen x w a4 hle.1 hle.2 hw (fun a4 => ?_)
      refine V_iload_3 d_cr_cheapestWithPart_62 ?_
      refine V_if_ne 70 d_cr_cheapestWithPart_63 (by decide) (by omega) (fun c63 => ?_) (fun c63 => by omega)
      refine V_iload_3 d_cr_cheapestWithPart_70 ?_
      refine V_iconst 1 d_cr_cheapestWithPart_71 ?_
      refine V_isub d_cr_cheapestWithPart_72 ?_
      refine V_iload_1 d_cr_cheapestWithPart_73 ?_
      refine V_iand d_cr_cheapestWithPart_74 ?_
      rw [en]
      refine V_istore_3 d_cr_cheapestWithPart_75 rfl ?_
      refine V_goto 4 d_cr_cheapestWithPart_76 (by decide) ?_
      exact ih y _ _ x3 (tad_rg (M := 700000000) hw (hr x hle.1).1 (hr _ hle.2).2) hU
  cases hL : L with
  | nil => rw [hL] at hhd; cases hhd
  | cons x r =>
    rw [hL] at hhd hok hTT
    cases hhd
    refine V_iconst (-1) d_cr_cheapestWithPart_0 ?_
    refine V_istore_2 d_cr_cheapestWithPart_1 rfl ?_
    refine V_iload_1 d_cr_cheapestWithPart_2 ?_
    refine V_istore_3 d_cr_cheapestWithPart_3 rfl ?_
    exact loop r s none _ hok (fun v hv => by cases hv) hTT
end HS10
