/-! the class reads a text -/
def st0 (h : Int) (f : q_F) : q_F := fun j k => if j = 106 then f 6 k else if j = 107 then f 7 k else f (h + j) k
def clrS (S : q_F) : q_F := fun j k => if j = 0 ∧ (k = 13 ∨ k = 14) then 0 else if j = 1 ∧ 0 ≤ k ∧ k < 7 then 0 else if (37 ≤ j ∧ j < 45) ∧ 0 ≤ k ∧ k < 8 then (if j - 37 = k then 0 else 1000) else S j k
/-- statements behind the first: m more at most -/
def sLoop (T : Int → Int) (N : Int) : Nat → q_F → List Int → Int → Int → q_PR
  | 0, S, L, p, e => if lk T N p = -1 then .inr (S, L, p, e) else .inl (5, p)
  | m + 1, S, L, p, e => if lk T N p = -1 then .inr (S, L, p, e) else rb (sStm false S T N L p e) (fun s => rb (l_sign T N 59 s.2.2.1 s.2.2.2) (fun u => sLoop T N m (q_up s.1 0 13 (s.1 0 13 + 1)) s.2.1 u.1 u.2))
def sText (T : Int → Int) (N : Int) (S : q_F) : q_PR := rb (sStm true (clrS S) T N [] (sk T N 0) (-1)) (fun s => rb (l_sign T N 59 s.2.2.1 s.2.2.2) (fun u => sLoop T N 89 (q_up s.1 0 13 (s.1 0 13 + 1)) s.2.1 u.1 u.2))
section STM9
variable {D : q_D} {f f' S : q_F} {A : q_As} {g h : Int} {T : Int → Int} {N p e : Int}
theorem cE_st0 (hh : q_G h) : cE h f (st0 h f) := ⟨fun j k a b => by unfold st0; rw [if_neg (by omega), if_neg (by omega)], fun k => by unfold st0; rw [if_pos rfl], fun k => by unfold st0; rw [if_neg (by decide), if_pos rfl]⟩
theorem ok_gdclear (hh : q_G h) (hE : cE h f S) : OkV D m_gd_clear [vr D h] (Zg g h) f (fun f' => cE h f' (clrS S) ∧ ∀ j k, ¬ (h ≤ j ∧ j < h + 84) → f' j k = f j k) := by
  have hg2 := q_G51 hh
  refine OkV_of (L0 := [vr D h, vu, vu]) mi_gd_clear rfl rfl (Nat.le_of_ble_eq_true rfl) (fun C hR => ?_)
  have done : ∀ F : q_F, (∀ j k, ¬ (h ≤ j ∧ j < h + 84) → F j k = f j k) → (∀ j k, 0 ≤ j → j < 84 → F (h + j) k = clrS S j k) → cE h F (clrS S) ∧ ∀ j k, ¬ (h ≤ j ∧ j < h + 84) → F j k = f j k := fun F h1 h2 => by
    refine ⟨⟨h2, fun k => ?_, fun k => ?_⟩, h1⟩
    · rw [h1 _ _ (by omega), hE.2.1 k]; unfold clrS; rw [if_neg (by omega), if_neg (by omega), if_neg (by omega)]
    · rw [h1 _ _ (by omega), hE.2.2 k]; unfold clrS; rw [if_neg (by omega), if_neg (by omega), if_neg (by omega)]
  -- what holds with rows below a done, and b places of row a
  have loop3 : ∀ (m : Nat) (a b : Int) (F : q_F), b + m = 8 → 0 ≤ b → 0 ≤ a → a < 8 → (∀ j k, ¬ (h ≤ j ∧ j < h + 84) → F j k = f j k) → (∀ j k, 0 ≤ j → j < 84 → F (h + j) k = if (37 ≤ j ∧ j < 45) ∧ 0 ≤ k ∧ k < 8 ∧ ¬ (j - 37 < a ∨ (j - 37 = a ∧ k < b)) then S j k else clrS S j k) → (∀ F' : q_F, (∀ j k, ¬ (h ≤ j ∧ j < h + 84) → F' j k = f j k) → (∀ j k, 0 ≤ j → j < 84 → F' (h + j) k = if (37 ≤ j ∧ j < 45) ∧ 0 ≤ k ∧ k < 8 ∧ ¬ (j - 37 < a + 1) then S j k else clrS S j k) → V D C m_gd_clear 33 [vr D h, vi (a + 1), vi 8] [] (Zg g h) F') → V D C m_gd_clear 41 [vr D h, vi a, vi b] [] (Zg g h) F := by
    intro m
    induction m with
    | zero =>
      intro a b F hm b0 a0 a1 h1 h2 K
      have eb : b = 8 := by omega
      subst eb
      refine V_iload_2 d_gd_clear_41 ?_
      refine V_bipush 8 d_gd_clear_42 (by decide) ?_
      refine V_icmp_ge 73 d_gd_clear_44 (by decide) (by omega) (by omega) (fun c44 => ?_) (fun c44 => by omega)
      refine V_iinc_1 d_gd_clear_73 rfl ?_
      refine V_goto 33 d_gd_clear_76 (by decide) ?_
      refine K F h1 (fun j k j0 j1 => ?_)
      rw [h2 j k j0 j1]
      by_cases hc : (37 ≤ j ∧ j < 45) ∧ 0 ≤ k ∧ k < 8 ∧ ¬ (j - 37 < a + 1)
      · rw [if_pos hc, if_pos (by omega)]
      · rw [if_neg hc, if_neg (by omega)]
    | succ m ih =>
      intro a b F hm b0 a0 a1 h1 h2 K
      have upd : ∀ v : Int, v = (if a = b then 0 else 1000) → ∀ j k, 0 ≤ j → j < 84 → (q_up F (h + 37 + a) b v) (h + j) k = if (37 ≤ j ∧ j < 45) ∧ 0 ≤ k ∧ k < 8 ∧ ¬ (j - 37 < a ∨ (j - 37 = a ∧ k < b + 1)) then S j k else clrS S j k := by
        intro v hv j k j0 j1
        by_cases e : j = 37 + a ∧ k = b
        · have e3 : clrS S (37 + a) b = if a = b then 0 else 1000 := by
            unfold clrS
            rw [if_neg (by omega), if_neg (by omega), if_pos (by omega)]
            by_cases e2 : a = b
            · rw [if_pos e2, if_pos (by omega)]
            · rw [if_neg e2, if_neg (by omega)]
          rw [e.1, e.2, show h + (37 + a) = h + 37 + a by omega, q_up_eq, if_neg (by omega), hv, e3]
        · rw [q_up_ne (by omega), h2 j k j0 j1]
          by_cases hc : (37 ≤ j ∧ j < 45) ∧ 0 ≤ k ∧ k < 8 ∧ ¬ (j - 37 < a ∨ (j - 37 = a ∧ k < b + 1))
          · rw [if_pos hc, if_pos (by omega)]
          · rw [if_neg hc, if_neg (by omega)]
      refine V_iload_2 d_gd_clear_41 ?_
      refine V_bipush 8 d_gd_clear_42 (by decide) ?_
      refine V_icmp_ge 73 d_gd_clear_44 (by decide) (by omega) (by omega) (fun c44 => by omega) (fun c44 => ?_)
      refine V_aload_0 d_gd_clear_47 ?_
      refine V_getR d_gd_clear_48 fl_gd_35 (is_gd hh) (r_gd_hours hh) ?_
      refine V_iload_1 d_gd_clear_51 ?_
      refine V_aald d_gd_clear_52 (is_gd_hours hh) (by omega) (by omega) (r_gd_hoursrow hh (by omega)) ?_
      refine V_iload_2 d_gd_clear_53 ?_
      refine V_iload_1 d_gd_clear_54 ?_
      refine V_iload_2 d_gd_clear_55 ?_
      refine V_icmp_ne 63 d_gd_clear_56 (by decide) (by omega) (by omega) (fun c56 => ?_) (fun c56 => ?_)
      · skip
        refine V_sipush 1000 d_gd_clear_63 (by decide) ?_
        refine V_iast d_gd_clear_66 (is_gd_hours_row hh (by omega)) (by omega) (by omega) ?_
        refine V_iinc_2 d_gd_clear_67 rfl ?_
        refine V_goto 41 d_gd_clear_70 (by decide) ?_
        exact ih a _ _ (by omega) (by omega) a0 a1 (fun j k hj => by rw [q_up_at (by omega)]; exact h1 j k hj) (upd _ (by rw [if_neg c56])) K
      · skip
        refine V_iconst 0 d_gd_clear_59 ?_
        refine V_goto 66 d_gd_clear_60 (by decide) ?_
        refine V_iast d_gd_clear_66 (is_gd_hours_row hh (by omega)) (by omega) (by omega) ?_
        refine V_iinc_2 d_gd_clear_67 rfl ?_
        refine V_goto 41 d_gd_clear_70 (by decide) ?_
        exact ih a _ _ (by omega) (by omega) a0 a1 (fun j k hj => by rw [q_up_at (by omega)]; exact h1 j k hj) (upd _ (by rw [if_pos (by omega)])) K
  have loop2 : ∀ (m : Nat) (a : Int) (F : q_F) (u : Value), a + m = 8 → 0 ≤ a → (∀ j k, ¬ (h ≤ j ∧ j < h + 84) → F j k = f j k) → (∀ j k, 0 ≤ j → j < 84 → F (h + j) k = if (37 ≤ j ∧ j < 45) ∧ 0 ≤ k ∧ k < 8 ∧ ¬ (j - 37 < a) then S j k else clrS S j k) → V D C m_gd_clear 33 [vr D h, vi a, u] [] (Zg g h) F := by
    intro m
    induction m with
    | zero =>
      intro a F u hm a0 h1 h2
      refine V_iload_1 d_gd_clear_33 ?_
      refine V_bipush 8 d_gd_clear_34 (by decide) ?_
      refine V_icmp_ge 79 d_gd_clear_36 (by decide) (by omega) (by omega) (fun c36 => ?_) (fun c36 => by omega)
      refine V_return d_gd_clear_79 (hR _ ?_)
      refine done F h1 (fun j k j0 j1 => ?_)
      rw [h2 j k j0 j1, if_neg (by omega)]
    | succ m ih =>
      intro a F u hm a0 h1 h2
      refine V_iload_1 d_gd_clear_33 ?_
      refine V_bipush 8 d_gd_clear_34 (by decide) ?_
      refine V_icmp_ge 79 d_gd_clear_36 (by decide) (by omega) (by omega) (fun c36 => by omega) (fun c36 => ?_)
      refine V_iconst 0 d_gd_clear_39 ?_
      refine V_istore_2 d_gd_clear_40 rfl ?_
      refine loop3 8 a _ F (by decide) (by decide) a0 (by omega) h1 (fun j k j0 j1 => ?_) (fun F' g1 g2 => ih (a + 1) F' _ (by omega) (by omega) g1 g2)
      rw [h2 j k j0 j1]
      by_cases hc : (37 ≤ j ∧ j < 45) ∧ 0 ≤ k ∧ k < 8 ∧ ¬ (j - 37 < a)
      · rw [if_pos hc, if_pos (by omega)]
      · rw [if_neg hc, if_neg (by omega)]
  have loop1 : ∀ (m : Nat) (i : Int) (F : q_F) (u : Value), i + m = 7 → 0 ≤ i → (∀ j k, ¬ (h ≤ j ∧ j < h + 84) → F j k = f j k) → (∀ j k, 0 ≤ j → j < 84 → F (h + j) k = if (37 ≤ j ∧ j < 45) ∧ 0 ≤ k ∧ k < 8 ∨ (j = 1 ∧ i ≤ k) then S j k else clrS S j k) → V D C m_gd_clear 12 [vr D h, vi i, u] [] (Zg g h) F := by
    intro m
    induction m with
    | zero =>
      intro i F u hm i0 h1 h2
      refine V_iload_1 d_gd_clear_12 ?_
      refine V_bipush 6 d_gd_clear_13 (by decide) ?_
      refine V_icmp_gt 31 d_gd_clear_15 (by decide) (by omega) (by omega) (fun c15 => ?_) (fun c15 => by omega)
      refine V_iconst 0 d_gd_clear_31 ?_
      refine V_istore_1 d_gd_clear_32 rfl ?_
      refine loop2 8 _ F _ (by decide) (by decide) h1 (fun j k j0 j1 => ?_)
      rw [h2 j k j0 j1]
      by_cases hc : (37 ≤ j ∧ j < 45) ∧ 0 ≤ k ∧ k < 8
      · rw [if_pos (Or.inl hc), if_pos (by omega)]
      · by_cases h1k : j = 1 ∧ i ≤ k
        · rw [if_pos (Or.inr h1k), if_neg (by omega)]
          unfold clrS; rw [if_neg (by omega), if_neg (by omega), if_neg (by omega)]
        · rw [if_neg (by omega), if_neg (by omega)]
    | succ m ih =>
      intro i F u hm i0 h1 h2
      refine V_iload_1 d_gd_clear_12 ?_
      refine V_bipush 6 d_gd_clear_13 (by decide) ?_
      refine V_icmp_gt 31 d_gd_clear_15 (by decide) (by omega) (by omega) (fun c15 => by omega) (fun c15 => ?_)
      refine V_aload_0 d_gd_clear_18 ?_
      refine V_getR d_gd_clear_19 fl_gd_9 (is_gd hh) (r_gd_counts hh) ?_
      refine V_iload_1 d_gd_clear_22 ?_
      refine V_iconst 0 d_gd_clear_23 ?_
      refine V_iast d_gd_clear_24 (is_gd_counts hh) (by omega) (by omega) ?_
      refine V_iinc_1 d_gd_clear_25 rfl ?_
      refine V_goto 12 d_gd_clear_28 (by decide) ?_
      refine ih _ _ _ (by omega) (by omega) (fun j k hj => by rw [q_up_at (by omega)]; exact h1 j k hj) (fun j k j0 j1 => ?_)
      by_cases e : j = 1 ∧ k = i
      · rw [e.1, e.2, q_up_eq, if_neg (by omega)]
        unfold clrS; rw [if_neg (by omega), if_pos (by omega)]
      · rw [q_up_ne (by omega), h2 j k j0 j1]
        by_cases hc : (37 ≤ j ∧ j < 45) ∧ 0 ≤ k ∧ k < 8 ∨ (j = 1 ∧ i + 1 ≤ k)
        · rw [if_pos hc, if_pos (by omega)]
        · rw [if_neg hc, if_neg (by omega)]
  refine V_aload_0 d_gd_clear_0 ?_
  refine V_iconst 0 d_gd_clear_1 ?_
  refine V_putI d_gd_clear_2 fl_gd_53 (is_gd hh) ?_
  refine V_aload_0 d_gd_clear_5 ?_
  refine V_iconst 0 d_gd_clear_6 ?_
  refine V_putI d_gd_clear_7 fl_gd_57 (is_gd hh) ?_
  refine V_iconst 0 d_gd_clear_10 ?_
  refine V_istore_1 d_gd_clear_11 rfl ?_
  refine loop1 7 _ _ _ (by decide) (by decide) (fun j k hj => by rw [q_up_at (by omega), q_up_at (by omega)]) (fun j k j0 j1 => ?_)
  by_cases e : j = 0 ∧ (k = 13 ∨ k = 14)
  · rw [if_neg (by omega), e.1]
    have e0 : clrS S 0 k = 0 := by unfold clrS; rw [if_pos ⟨rfl, e.2⟩]
    rw [e0, Int.add_zero]
    rcases e.2 with e2 | e2
    · rw [e2, q_up_ne (Or.inr (by decide)), q_up_eq]
    · rw [e2, q_up_eq]
  · rw [q_up_ne (by omega), q_up_ne (by omega), hE.1 j k j0 j1]
    by_cases hc : (37 ≤ j ∧ j < 45) ∧ 0 ≤ k ∧ k < 8 ∨ (j = 1 ∧ 0 ≤ k)
    · rw [if_pos hc]
    · rw [if_neg hc]
      unfold clrS; rw [if_neg e, if_neg (by omega), if_neg (by omega)]
theorem pW_clr (S : q_F) : pW (clrS S) := by
  have c1 : ∀ k, 0 ≤ k → k < 7 → clrS S 1 k = 0 := fun k a b => by unfold clrS; rw [if_neg (by omega), if_pos ⟨rfl, a, b⟩]
  unfold pW
  rw [c1 0 (by decide) (by decide), c1 1 (by decide) (by decide), c1 2 (by decide) (by decide), c1 3 (by decide) (by decide), c1 4 (by decide) (by decide), c1 5 (by decide) (by decide), c1 6 (by decide) (by decide)]
  refine ⟨by decide, by decide, by decide, by decide, by decide, by decide, by decide, fun i w i0 i1 w0 w1 => ?_, fun a b a0 a1 b0 b1 => ?_⟩
  · rw [c1 i i0 (by omega)] at w1; omega
  · unfold clrS; rw [if_neg (by omega), if_neg (by omega), if_pos (by omega)]
    split <;> omega
theorem ok_ruclear : OkV D m_ru_clear [vr D 4] (Zg g h) f (fun f' => f' = q_up f 4 2 0) := by
  refine OkV_of (L0 := [vr D 4]) mi_ru_clear rfl rfl (Nat.le_of_ble_eq_true rfl) (fun C hR => ?_)
  refine V_aload_0 d_ru_clear_0 ?_
  refine V_iconst 0 d_ru_clear_1 ?_
  refine V_putI d_ru_clear_2 fl_ru_33 is_ru ?_
  refine V_return d_ru_clear_5 (hR _ ?_)
  exact rfl
theorem ok_rewind : OkV D m_tp_rewind [vr D 1] (Zg g h) f (fun f' => f' = q_up (q_up (q_up (q_up f 1 2 0) 1 8 (-1)) 1 3 0) 1 4 (-1)) := by
  refine OkV_of (L0 := [vr D 1]) mi_tp_rewind rfl rfl (Nat.le_of_ble_eq_true rfl) (fun C hR => ?_)
  refine V_aload_0 d_tp_rewind_0 ?_
  refine V_iconst 0 d_tp_rewind_1 ?_
  refine V_putI d_tp_rewind_2 fl_tp_22 is_tp ?_
  refine V_aload_0 d_tp_rewind_5 ?_
  refine V_iconst (-1) d_tp_rewind_6 ?_
  refine V_putI d_tp_rewind_7 fl_tp_25 is_tp ?_
  refine V_aload_0 d_tp_rewind_10 ?_
  refine V_iconst 0 d_tp_rewind_11 ?_
  refine V_putI d_tp_rewind_12 fl_tp_28 is_tp ?_
  refine V_aload_0 d_tp_rewind_15 ?_
  refine V_iconst (-1) d_tp_rewind_16 ?_
  refine V_putI d_tp_rewind_17 fl_tp_15 is_tp ?_
  refine V_return d_tp_rewind_20 (hR _ ?_)
  exact rfl
end STM9
