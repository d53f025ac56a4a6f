/-! the class: ways -/
def nOf (p : Int → Bool) : Nat := (cnt p).toNat
def S_ways (A : q_As) (l : Int) : Int := if 0 ≤ l ∧ cnt (held A (-1)) ≤ 8 then Tw A (chs (held A (-1))) l (nOf (held A (-1))) (A 0 2 0).toNat (bt (2 ^ nOf (held A (-1)) - 1)) else -1
section HS15
variable {D : q_D} {f f' : q_F} {A : q_As} {g h : Int}
theorem nthN_some {p : Int → Bool} : ∀ (m : Nat) (i k : Int), 0 ≤ i → 0 ≤ k → k < cntN m i p → ¬ nthN m i k p = -1 := by
  intro m
  induction m with
  | zero => intro i k _ k0 hk; unfold cntN at hk; omega
  | succ m ih =>
    intro i k i0 k0 hk
    rw [cntN] at hk
    rw [nthN]
    cases hp : p i
    · rw [hp, if_neg (by decide), Int.zero_add] at hk
      rw [if_neg (by decide)]
      exact ih _ _ (by omega) k0 hk
    · rw [hp, if_pos rfl] at hk
      rw [if_pos rfl]
      by_cases e : k = 0
      · rw [if_pos e]; omega
      · rw [if_neg e]; exact ih _ _ (by omega) (by omega) (by omega)
theorem cntN_tail {p : Int → Bool} (d : Nat) : ∀ (m : Nat) (i : Int), (∀ j, i + m ≤ j → j < i + m + d → p j = false) → cntN (m + d) i p = cntN m i p := by
  intro m
  induction m with
  | zero => intro i hp; rw [Nat.zero_add]; exact cntN_zero d i (fun j a b => hp j (by omega) (by omega))
  | succ m ih =>
    intro i hp
    rw [show m + 1 + d = (m + d) + 1 by omega, cntN, cntN, ih (i + 1) (fun j a b => hp j (by omega) (by omega))]
theorem nth_at {p : Int → Bool} (hp : ∀ t, 0 ≤ t → t < 31 → p t = true → t < 24) {k : Int} (k0 : 0 ≤ k) (k1 : k < cnt p) : 0 ≤ nth p k ∧ nth p k < 24 ∧ p (nth p k) = true := by
  have e : cnt p = cntN 24 0 p := cntN_tail 7 24 0 (fun j a b => by
    cases hj : p j
    · rfl
    · have := hp j (by omega) (by omega) hj; omega)
  rcases nthN_rg p 24 0 k (by decide) with h1 | ⟨h1, h2, h3⟩
  · exact absurd h1 (nthN_some 24 0 k (by decide) k0 (by omega))
  · exact ⟨h1, by unfold nth; omega, h3⟩
/-- what is chosen of a set of sightings -/
theorem cho_of {p : Int → Bool} {n : Nat} (hF : Wf A) (hp : ∀ t, p t = true → t < A 0 4 0) (hn : (n : Int) = cnt p) (n8 : n ≤ 8) (h1 : f 45 1 = n) (h2 : ∀ k : Int, 0 ≤ k → k < n → f 46 k = nth p k) : q_cho f A (chs p) n := by
  have hnn := hF.nn
  refine ⟨h1, n8, h2, fun k k0 k1 => ?_⟩
  obtain ⟨e1, e2, e3⟩ := nth_at (p := p) (fun t _ _ ht => by have := hp t ht; omega) k0 (by omega)
  exact ⟨e1, hp _ e3⟩
theorem held_hi {sh t : Int} (h : held A sh t = true) : t < A 0 4 0 := (held_at h).1
theorem hs_ways (hS : Cst g f A) (hF : Wf A) {l : Int} (hl : -2147483648 ≤ l ∧ l < 2147483648) : OkI D m_hs_ways [vr D 0, vi l] (Zg g h) f (fun x f' => x = S_ways A l ∧ ∀ j k, ¬ (43 ≤ j ∧ j < 50) → f' j k = f j k) := by
  have hn := hF.nn
  have hg := hS.1
  have hcr := cnt_rg (held A (-1))
  have hnO : ((nOf (held A (-1)) : Nat) : Int) = cnt (held A (-1)) := by unfold nOf; omega
  refine OkI_of (L0 := [vr D 0, vi l]) mi_hs_ways rfl rfl (Nat.le_of_ble_eq_true rfl) (fun C hR => ?_)
  have no : ¬ (0 ≤ l ∧ cnt (held A (-1)) ≤ 8) → -1 = S_ways A l := fun e => by unfold S_ways; rw [if_neg e]
  refine V_iload_1 d_hs_ways_0 ?_
  refine V_if_lt 20 d_hs_ways_1 (by decide) (by omega) (fun c1 => ?_) (fun c1 => ?_)
  · skip
    refine V_iconst (-1) d_hs_ways_20 ?_
    refine V_ireturn d_hs_ways_21 (hR _ _ ?_)
    exact ⟨no (by omega), fun _ _ _ => rfl⟩
  · skip
    refine V_aload_0 d_hs_ways_4 ?_
    refine V_getR d_hs_ways_5 fl_hs_42 is_hs r_hs_crews ?_
    refine V_aload_0 d_hs_ways_8 ?_
    refine V_cvI0 d_hs_ways_9 ml_hs_100 mv_hs_unhired (by decide) (Nat.le_of_ble_eq_true rfl) is_hs (ok_unhired hS hF) ?_
    rintro _ f2 ⟨rfl, e2⟩
    rw [e2]; clear e2 f2
    refine V_bipush 8 d_hs_ways_12 (by decide) ?_
    refine V_cvI2 d_hs_ways_14 ml_hs_193 mv_cr_choose (by decide) (Nat.le_of_ble_eq_true rfl) is_cr (ok_choose (n := nOf (held A (-1))) hnO (fun t _ _ ht => by have := held_hi ht; omega) (by decide)) ?_
    rintro x14 F ⟨hx14, hf1, hf2⟩
    refine V_if_ne 22 d_hs_ways_17 (by decide) (by omega) (fun c17 => ?_) (fun c17 => ?_)
    · skip
      have hle := q_b1 hx14 (by omega)
      obtain ⟨h1, h2⟩ := hf2 hle
      have hSF : Cst g F A := hS.scr hF (fun j k hj => hf1 j k (by omega) (by omega))
      refine V_aload_0 d_hs_ways_22 ?_
      refine V_getR d_hs_ways_23 fl_hs_42 is_hs r_hs_crews ?_
      refine V_aload_0 d_hs_ways_26 ?_
      refine V_getR d_hs_ways_27 fl_hs_57 is_hs (r_hs_now hg) ?_
      refine V_aload_0 d_hs_ways_30 ?_
      refine V_getR d_hs_ways_31 fl_hs_28 is_hs r_hs_hires ?_
      refine V_iload_1 d_hs_ways_34 ?_
      refine V_cvI3 d_hs_ways_35 ml_hs_196 mv_cr_countWays (by decide) (Nat.le_of_ble_eq_true rfl) is_cr (ok_countWays hSF hF (cho_of hF (fun t ht => held_hi ht) hnO (by omega) h1 h2) hl) ?_
      rintro x F2 ⟨hx, hf3⟩
      refine V_ireturn d_hs_ways_38 (hR _ _ ?_)
      refine ⟨?_, fun j k hj => by rw [hf3 j k (by omega)]; exact hf1 j k (by omega) (by omega)⟩
      rw [hx]; unfold S_ways; rw [if_pos (by omega)]
    · skip
      refine V_iconst (-1) d_hs_ways_20 ?_
      refine V_ireturn d_hs_ways_21 (hR _ _ ?_)
      exact ⟨no (fun e => q_b0 hx14 (by omega) (by omega)), fun j k hj => hf1 j k (by omega) (by omega)⟩
end HS15
