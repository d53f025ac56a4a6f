/-! sets of sightings: who has what -/
/-- the sightings that a shade has (-1: that none has) -/
def held (A : q_As) (sh s : Int) : Bool := decide (s < A 0 4 0) && decide (A 11 s 0 = sh)
def isOf (A : q_As) (p s : Int) : Bool := decide (s < A 0 4 0) && decide (A 7 s 0 = p)
/-- the sightings of a person that no shade has -/
def own (A : q_As) (p s : Int) : Bool := held A (-1) s && isOf A p s
section HIRES
variable {D : q_D} {f : q_F} {A : q_As} {g g1 h : Int}
theorem Ch.at (hH : Ch f A) (hWh : Wh A) {s : Int} (h0 : 0 ≤ s) (h1 : s < A 0 4 0) : f 11 s = A 11 s 0 ∧ -1 ≤ A 11 s 0 ∧ A 11 s 0 < A 0 2 0 := ⟨hH.1 s h0 h1, hWh.1 s h0 h1⟩
theorem ok_held (hH : Ch f A) (hW : Wg A) (hWh : Wh A) {sh n : Int} (hsh : -2147483648 ≤ sh ∧ sh < 2147483648) (hn0 : n = A 0 4 0) : OkI D m_hi_held [vr D 10, vi sh, vi n] (Zg g1 h) f (fun x f' => x = mB (held A sh) ∧ f' = f) := by
  have hn := hW.1
  refine OkI_of (L0 := [vr D 10, vi sh, vi n, vu, vu]) mi_hi_held rfl rfl (Nat.le_of_ble_eq_true rfl) (fun C hR => ?_)
  have loop : ∀ (m : Nat) (i b : Int), (A 0 4 0 - i).toNat < m → 0 ≤ i → i ≤ A 0 4 0 → b = mB (fun j => decide (j < i) && decide (A 11 j 0 = sh)) → V D C m_hi_held 5 [vr D 10, vi sh, vi n, vi b, vi i] [] (Zg g1 h) f := by
    intro m
    induction m with
    | zero => intro i b hm; omega
    | succ m ih =>
      intro i b hm h0 h1 hb
      refine V_iload_4 d_hi_held_5 ?_
      refine V_iload_2 d_hi_held_7 ?_
      refine V_icmp_ge 35 d_hi_held_8 (by decide) (by omega) (by omega) (fun c8 => ?_) (fun c8 => ?_)
      · skip
        refine V_iload_3 d_hi_held_35 ?_
        refine V_ireturn d_hi_held_36 (hR _ _ ⟨?_, rfl⟩)
        rw [hb, show i = A 0 4 0 by omega]; rfl
      · skip
        obtain ⟨e0, b0, b1⟩ := hH.at hWh h0 (by omega)
        refine V_aload_0 d_hi_held_11 ?_
        refine V_getR d_hi_held_12 fl_hi_9 is_hi r_hi_shadeOf ?_
        refine V_iload_4 d_hi_held_15 ?_
        refine V_iald d_hi_held_17 is_hi_shadeOf (by omega) (by omega) ?_
        refine V_iload_1 d_hi_held_18 ?_
        refine V_icmp_ne 29 d_hi_held_19 (by decide) (by omega) (by omega) (fun c19 => ?_) (fun c19 => ?_)
        · skip
          refine V_iinc_4 d_hi_held_29 rfl ?_
          refine V_goto 5 d_hi_held_32 (by decide) ?_
          refine ih _ _ (by omega) (by omega) (by omega) ?_
          rw [mB_step _ (by omega), hb]
          have : decide (A 11 i 0 = sh) = false := by simp only [decide_eq_false_iff_not]; omega
          rw [this]; rfl
        · skip
          refine V_iload_3 d_hi_held_22 ?_
          refine V_iconst 1 d_hi_held_23 ?_
          refine V_iload_4 d_hi_held_24 ?_
          refine V_ishl d_hi_held_26 ?_
          refine V_ior d_hi_held_27 ?_
          refine V_istore_3 d_hi_held_28 rfl ?_
          refine V_iinc_4 d_hi_held_29 rfl ?_
          refine V_goto 5 d_hi_held_32 (by decide) ?_
          refine ih _ _ (by omega) (by omega) (by omega) ?_
          rw [mB_step _ (by omega), hb]
          have : decide (A 11 i 0 = sh) = true := by simp only [decide_eq_true_eq]; omega
          rw [this]; rfl
  refine V_iconst 0 d_hi_held_0 ?_
  refine V_istore_3 d_hi_held_1 rfl ?_
  refine V_iconst 0 d_hi_held_2 ?_
  refine V_istore_4 d_hi_held_3 rfl ?_
  exact loop _ _ _ (Nat.lt_succ_self _) (by decide) (by omega) (mB_lt0 _).symm
theorem ok_sightingsOf (hg : q_G g) (hG : Cg g f A) (hW : Wg A) {p : Int} (hp : -2147483648 ≤ p ∧ p < 2147483648) : OkI D m_gd_sightingsOf [vr D g, vi p] (Zg g1 h) f (fun x f' => x = mB (isOf A p) ∧ f' = f) := by
  have e4 := hG.c4
  have hn := hW.1
  refine OkI_of (L0 := [vr D g, vi p, vu, vu]) mi_gd_sightingsOf rfl rfl (Nat.le_of_ble_eq_true rfl) (fun C hR => ?_)
  have loop : ∀ (m : Nat) (i b : Int), (A 0 4 0 - i).toNat < m → 0 ≤ i → i ≤ A 0 4 0 → b = mB (fun j => decide (j < i) && decide (A 7 j 0 = p)) → V D C m_gd_sightingsOf 4 [vr D g, vi p, vi b, vi i] [] (Zg g1 h) f := by
    intro m
    induction m with
    | zero => intro i b hm; omega
    | succ m ih =>
      intro i b hm h0 h1 hb
      refine V_iload_3 d_gd_sightingsOf_4 ?_
      refine V_aload_0 d_gd_sightingsOf_5 ?_
      refine V_getR d_gd_sightingsOf_6 fl_gd_9 (is_gd hg) (r_gd_counts hg) ?_
      refine V_iconst 4 d_gd_sightingsOf_9 ?_
      refine V_iald d_gd_sightingsOf_10 (is_gd_counts hg) (by omega) (by omega) ?_
      refine V_icmp_ge 38 d_gd_sightingsOf_11 (by decide) (by omega) (by omega) (fun c11 => ?_) (fun c11 => ?_)
      · skip
        refine V_iload_2 d_gd_sightingsOf_38 ?_
        refine V_ireturn d_gd_sightingsOf_39 (hR _ _ ⟨?_, rfl⟩)
        rw [hb, show i = A 0 4 0 by omega]; rfl
      · skip
        obtain ⟨⟨e0, -⟩, b1, -⟩ := hG.sg hW h0 (by omega)
        refine V_aload_0 d_gd_sightingsOf_14 ?_
        refine V_getR d_gd_sightingsOf_15 fl_gd_38 (is_gd hg) (r_gd_sightings hg) ?_
        refine V_iload_3 d_gd_sightingsOf_18 ?_
        refine V_aald d_gd_sightingsOf_19 (is_gd_sightings hg) (by omega) (by omega) (r_gd_sightingsrow hg (by omega)) ?_
        refine V_iconst 0 d_gd_sightingsOf_20 ?_
        refine V_iald d_gd_sightingsOf_21 (is_gd_sightings_row hg (by omega)) (by omega) (by omega) ?_
        refine V_iload_1 d_gd_sightingsOf_22 ?_
        refine V_icmp_ne 32 d_gd_sightingsOf_23 (by decide) (by omega) (by omega) (fun c23 => ?_) (fun c23 => ?_)
        · skip
          refine V_iinc_3 d_gd_sightingsOf_32 rfl ?_
          refine V_goto 4 d_gd_sightingsOf_35 (by decide) ?_
          refine ih _ _ (by omega) (by omega) (by omega) ?_
          rw [mB_step _ (by omega), hb]
          have : decide (A 7 i 0 = p) = false := by simp only [decide_eq_false_iff_not]; omega
          rw [this]; rfl
        · skip
          refine V_iload_2 d_gd_sightingsOf_26 ?_
          refine V_iconst 1 d_gd_sightingsOf_27 ?_
          refine V_iload_3 d_gd_sightingsOf_28 ?_
          refine V_ishl d_gd_sightingsOf_29 ?_
          refine V_ior d_gd_sightingsOf_30 ?_
          refine V_istore_2 d_gd_sightingsOf_31 rfl ?_
          refine V_iinc_3 d_gd_sightingsOf_32 rfl ?_
          refine V_goto 4 d_gd_sightingsOf_35 (by decide) ?_
          refine ih _ _ (by omega) (by omega) (by omega) ?_
          rw [mB_step _ (by omega), hb]
          have : decide (A 7 i 0 = p) = true := by simp only [decide_eq_true_eq]; omega
          rw [this]; rfl
  refine V_iconst 0 d_gd_sightingsOf_0 ?_
  refine V_istore_2 d_gd_sightingsOf_1 rfl ?_
  refine V_iconst 0 d_gd_sightingsOf_2 ?_
  refine V_istore_3 d_gd_sightingsOf_3 rfl ?_
  exact loop _ _ _ (Nat.lt_succ_self _) (by decide) (by omega) (mB_lt0 _).symm
theorem ok_titheOf (hg : q_G g) (hG : Cg g f A) (hW : Wg A) {k s : Int} (hk : 0 ≤ k ∧ k < A 0 2 0) (hs : 0 ≤ s ∧ s < A 0 4 0) : OkI D m_gd_titheOf [vr D g, vi k, vi s] (Zg g1 h) f (fun x f' => x = A 9 k s * A 0 6 0 / 100 ∧ f' = f) := by
  have hn := hW.1
  obtain ⟨⟨-, e9⟩, -, b9⟩ := hG.pp hW hk hs
  have e6 := hG.2.1
  have hm := q_mulb (a := A 9 k s) (b := A 0 6 0) (m := 999) (n := 100) (by omega) (by omega)
  refine OkI_of (L0 := [vr D g, vi k, vi s]) mi_gd_titheOf rfl rfl (Nat.le_of_ble_eq_true rfl) (fun C hR => ?_)
  refine V_aload_0 d_gd_titheOf_0 ?_
  refine V_getR d_gd_titheOf_1 fl_gd_44 (is_gd hg) (r_gd_prices hg) ?_
  refine V_iload_1 d_gd_titheOf_4 ?_
  refine V_aald d_gd_titheOf_5 (is_gd_prices hg) (by omega) (by omega) (r_gd_pricesrow hg (by omega)) ?_
  refine V_iload_2 d_gd_titheOf_6 ?_
  refine V_iald d_gd_titheOf_7 (is_gd_prices_row hg (by omega)) (by omega) (by omega) ?_
  refine V_aload_0 d_gd_titheOf_8 ?_
  refine V_getI d_gd_titheOf_9 fl_gd_57 (is_gd hg) ?_
  refine V_imul d_gd_titheOf_12 ?_
  refine V_bipush 100 d_gd_titheOf_13 (by decide) ?_
  rw [e9, e6]
  refine V_idiv d_gd_titheOf_15 (by omega) (by omega) ?_
  refine V_ireturn d_gd_titheOf_16 (hR _ _ ?_)
  exact ⟨rfl, rfl⟩
theorem ok_allSightings (hg : q_G g) (hG : Cg g f A) (hW : Wg A) : OkI D m_gd_allSightings [vr D g] (Zg g1 h) f (fun x f' => x = mB (fun s => decide (s < A 0 4 0)) ∧ f' = f) := by
  have hn := hW.1
  have e4 := hG.c4
  refine OkI_of (L0 := [vr D g]) mi_gd_allSightings rfl rfl (Nat.le_of_ble_eq_true rfl) (fun C hR => ?_)
  refine V_iconst 1 d_gd_allSightings_0 ?_
  refine V_aload_0 d_gd_allSightings_1 ?_
  refine V_getR d_gd_allSightings_2 fl_gd_9 (is_gd hg) (r_gd_counts hg) ?_
  refine V_iconst 4 d_gd_allSightings_5 ?_
  refine V_iald d_gd_allSightings_6 (is_gd_counts hg) (by omega) (by omega) ?_
  refine V_ishl d_gd_allSightings_7 ?_
  refine V_iconst 1 d_gd_allSightings_8 ?_
  refine V_isub d_gd_allSightings_9 ?_
  refine V_ireturn d_gd_allSightings_10 (hR _ _ ?_)
  refine ⟨?_, rfl⟩
  rw [e4]; exact mB_low (by omega)
theorem ok_nthOf {p : Int → Bool} {k : Int} (hk : -2147483648 ≤ k ∧ k < 2147483648) : OkI D m_hs_nthOf [vi (mB p), vi k] (Zg g1 h) f (fun x f' => x = nth p k ∧ f' = f) := by
  refine OkI_of (L0 := [vi (mB p), vi k, vu, vu]) mi_hs_nthOf rfl rfl (Nat.le_of_ble_eq_true rfl) (fun C hR => ?_)
  have loop : ∀ (m : Nat) (i l : Int), i + m = 24 → 0 ≤ i → k - l ≤ i → l ≤ k → nthN m i l p = nth p k → V D C m_hs_nthOf 4 [vi (mB p), vi k, vi l, vi i] [] (Zg g1 h) f := by
    intro m
    induction m with
    | zero =>
      intro i l hm h0 h3 h4 hr
      refine V_iload_3 d_hs_nthOf_4 ?_
      refine V_bipush 24 d_hs_nthOf_5 (by decide) ?_
      refine V_icmp_ge 34 d_hs_nthOf_7 (by decide) (by omega) (by omega) (fun c7 => ?_) (fun c7 => ?_)
      · skip
        refine V_iconst (-1) d_hs_nthOf_34 ?_
        refine V_ireturn d_hs_nthOf_35 (hR _ _ ?_)
        exact ⟨hr, rfl⟩
      · skip
        omega
    | succ m ih =>
      intro i l hm h0 h3 h4 hr
      unfold nthN at hr
      refine V_iload_3 d_hs_nthOf_4 ?_
      refine V_bipush 24 d_hs_nthOf_5 (by decide) ?_
      refine V_icmp_ge 34 d_hs_nthOf_7 (by decide) (by omega) (by omega) (fun c7 => ?_) (fun c7 => ?_)
      · skip
        omega
      · skip
        refine V_iload_0 d_hs_nthOf_10 ?_
        refine V_iload_3 d_hs_nthOf_11 ?_
        refine V_ishr d_hs_nthOf_12 ?_
        refine V_iconst 1 d_hs_nthOf_13 ?_
        refine V_iand d_hs_nthOf_14 ?_
        refine V_iconst 1 d_hs_nthOf_15 ?_
        refine V_icmp_ne 28 d_hs_nthOf_16 (by decide) (mB_shrrg _ _) (by decide) (fun c16 => ?_) (fun c16 => ?_)
        · skip
          rw [mB_ib0 _ (by omega)] at c16
          rw [if_neg (by rw [c16]; decide)] at hr
          refine V_iinc_3 d_hs_nthOf_28 rfl ?_
          refine V_goto 4 d_hs_nthOf_31 (by decide) ?_
          exact ih _ _ (by omega) (by omega) (by omega) (by omega) hr
        · skip
          rw [mB_ib _ (by omega)] at c16
          rw [if_pos c16] at hr
          refine V_iload_2 d_hs_nthOf_19 ?_
          refine V_if_new 25 d_hs_nthOf_20 (by decide) (by omega) (fun c20 => ?_) (fun c20 => ?_)
          · skip
            rw [if_neg c20] at hr
            refine V_iinc_2 d_hs_nthOf_25 rfl ?_
            refine V_iinc_3 d_hs_nthOf_28 rfl ?_
            refine V_goto 4 d_hs_nthOf_31 (by decide) ?_
            exact ih _ _ (by omega) (by omega) (by omega) (by omega) hr
          · skip
            refine V_iload_3 d_hs_nthOf_23 ?_
            refine V_ireturn d_hs_nthOf_24 (hR _ _ ?_)
            rw [if_pos c20] at hr; exact ⟨hr, rfl⟩
  refine V_iload_1 d_hs_nthOf_0 ?_
  refine V_istore_2 d_hs_nthOf_1 rfl ?_
  refine V_iconst 0 d_hs_nthOf_2 ?_
  refine V_istore_3 d_hs_nthOf_3 rfl ?_
  exact loop 24 _ _ (by decide) (by decide) (by omega) (by omega) rfl
end HIRES
