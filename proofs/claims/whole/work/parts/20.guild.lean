/-! Guild: what is asked of it -/
section GUILD
variable {D : q_D} {f : q_F} {A : q_As} {g g1 h : Int}
theorem Cg.c4 (hG : Cg g f A) : f (g + 1) 4 = A 0 4 0 := hG.1 4 (by decide) (by decide)
theorem Cg.sg (hG : Cg g f A) (hW : Wg A) {s : Int} (h0 : 0 ≤ s) (h1 : s < A 0 4 0) : (f (g + 46 + s) 0 = A 7 s 0 ∧ f (g + 46 + s) 1 = A 7 s 1 ∧ f (g + 46 + s) 2 = A 7 s 2 ∧ f (g + 46 + s) 3 = A 7 s 3 ∧ f (g + 46 + s) 4 = A 7 s 4) ∧
    (0 ≤ A 7 s 0 ∧ A 7 s 0 < A 0 1 0) ∧ (0 ≤ A 7 s 1 ∧ A 7 s 1 < A 0 3 0) ∧ (0 ≤ A 7 s 2 ∧ A 7 s 2 ≤ 99) ∧ (0 ≤ A 7 s 3 ∧ A 7 s 3 ≤ 100) ∧ (0 ≤ A 7 s 4 ∧ A 7 s 4 ≤ 1) := by
  obtain ⟨-, -, -, -, -, -, -, -, hs, -⟩ := hG
  exact ⟨⟨hs s 0 h0 h1 (by decide) (by decide), hs s 1 h0 h1 (by decide) (by decide), hs s 2 h0 h1 (by decide) (by decide), hs s 3 h0 h1 (by decide) (by decide), hs s 4 h0 h1 (by decide) (by decide)⟩, hW.2.1 s h0 h1⟩
theorem Cg.far (hG : Cg g f A) {a b : Int} (h0 : 0 ≤ a ∧ a < A 0 3 0) (h1 : 0 ≤ b ∧ b < A 0 3 0) : f (g + 37 + a) b = A 6 a b := hG.2.2.2.2.2.2.2.1 a b h0.1 h0.2 h1.1 h1.2
theorem Cg.ord (hG : Cg g f A) {i : Int} (h0 : 0 ≤ i) (h1 : i < A 0 4 0) : f (g + 83) i = A 16 i 0 := hG.2.2.2.2.2.2.2.2.2.2.2 i h0 h1
theorem Cg.pp (hG : Cg g f A) (hW : Wg A) {k s : Int} (h0 : 0 ≤ k ∧ k < A 0 2 0) (h1 : 0 ≤ s ∧ s < A 0 4 0) : (f (g + 71 + k) s = A 8 k s ∧ f (g + 77 + k) s = A 9 k s) ∧ (0 ≤ A 8 k s ∧ A 8 k s ≤ 1000) ∧ (0 ≤ A 9 k s ∧ A 9 k s ≤ 999) := ⟨hG.2.2.2.2.2.2.2.2.2.1 k s h0.1 h0.2 h1.1 h1.2, hW.2.2.2.1 k s h0.1 h0.2 h1.1 h1.2⟩
theorem Cg.fee (hG : Cg g f A) (hW : Wg A) {k : Int} (h0 : 0 ≤ k ∧ k < A 0 2 0) : f (g + 35) k = A 10 k 0 ∧ 1 ≤ A 10 k 0 ∧ A 10 k 0 ≤ 99 := ⟨hG.2.2.2.2.2.2.1 k h0.1 h0.2, hW.2.2.2.2.1 k h0.1 h0.2⟩
theorem Cg.mt (hG : Cg g f A) {s : Int} (h0 : 0 ≤ s) (h1 : s < A 0 4 0) : f (g + 82) s = mB (fun t => decide (t < A 0 4 0) && can A s t) := hG.2.2.2.2.2.2.2.2.2.2.1 s h0 h1
theorem ok_isThere (hg : q_G g) (hG : Cg g f A) (hW : Wg A) {k w : Int} (hk : 0 ≤ k ∧ k < 6) (hw : -2147483648 ≤ w ∧ w < 2147483648) : OkI D m_gd_isThere [vr D g, vi k, vi w] (Zg g1 h) f (fun x f' => ((x = 1 ∧ (0 ≤ w ∧ w < A 0 k 0)) ∨ (x = 0 ∧ ¬ (0 ≤ w ∧ w < A 0 k 0))) ∧ f' = f) := by
  have e := hG.1 k hk.1 hk.2
  have hb : 0 ≤ A 0 k 0 ∧ A 0 k 0 ≤ 100 := by
    obtain ⟨⟨h0, h1, h2, h3, h4, h5, h6⟩, -⟩ := hW
    rcases (show k = 0 ∨ k = 1 ∨ k = 2 ∨ k = 3 ∨ k = 4 ∨ k = 5 by omega) with rfl | rfl | rfl | rfl | rfl | rfl <;> omega
  refine OkB_of (L0 := [vr D g, vi k, vi w]) mi_gd_isThere rfl rfl (Nat.le_of_ble_eq_true rfl) (fun C hR => ?_)
  refine V_iload_2 d_gd_isThere_0 ?_
  refine V_if_lt 18 d_gd_isThere_1 (by decide) (by omega) (fun c1 => ?_) (fun c1 => ?_)
  · skip
    refine V_iconst 0 d_gd_isThere_18 ?_
    refine V_ireturn d_gd_isThere_19 (hR _ _ (by decide) ?_)
    exact ⟨by omega, rfl⟩
  · skip
    refine V_iload_2 d_gd_isThere_4 ?_
    refine V_aload_0 d_gd_isThere_5 ?_
    refine V_getR d_gd_isThere_6 fl_gd_9 (is_gd hg) (r_gd_counts hg) ?_
    refine V_iload_1 d_gd_isThere_9 ?_
    refine V_iald d_gd_isThere_10 (is_gd_counts hg) (by omega) (by omega) ?_
    refine V_icmp_ge 18 d_gd_isThere_11 (by decide) (by omega) (by omega) (fun c11 => ?_) (fun c11 => ?_)
    · skip
      refine V_iconst 0 d_gd_isThere_18 ?_
      refine V_ireturn d_gd_isThere_19 (hR _ _ (by decide) ?_)
      exact ⟨by omega, rfl⟩
    · skip
      refine V_iconst 1 d_gd_isThere_14 ?_
      refine V_goto 19 d_gd_isThere_15 (by decide) ?_
      refine V_ireturn d_gd_isThere_19 (hR _ _ (by decide) ?_)
      exact ⟨by omega, rfl⟩
theorem ok_near (hg : q_G g) (hG : Cg g f A) (hW : Wg A) {p t : Int} (hp : 0 ≤ p ∧ p < A 0 3 0) (ht : 0 ≤ t ∧ t ≤ 99) : OkI D m_gd_near [vr D g, vi p, vi t] (Zg g1 h) f (fun x f' => x = mB (fun j => decide (j < A 0 4 0) && near A p t j) ∧ f' = f) := by
  have e4 := hG.c4
  have hn := hW.1
  refine OkI_of (L0 := [vr D g, vi p, vi t, vu, vu, vu]) mi_gd_near rfl rfl (Nat.le_of_ble_eq_true rfl) (fun C hR => ?_)
  have loop : ∀ (m : Nat) (i b : Int) (a5 : Value), (A 0 4 0 - i).toNat < m → 0 ≤ i → i ≤ A 0 4 0 → b = mB (fun j => decide (j < i) && near A p t j) → V D C m_gd_near 5 [vr D g, vi p, vi t, vi b, vi i, a5] [] (Zg g1 h) f := by
    intro m
    induction m with
    | zero => intro i b a5 hm; omega
    | succ m ih =>
      intro i b a5 hm h0 h1 hb
      refine V_iload_4 d_gd_near_5 ?_
      refine V_aload_0 d_gd_near_7 ?_
      refine V_getR d_gd_near_8 fl_gd_9 (is_gd hg) (r_gd_counts hg) ?_
      refine V_iconst 4 d_gd_near_11 ?_
      refine V_iald d_gd_near_12 (is_gd_counts hg) (by omega) (by omega) ?_
      refine V_icmp_ge 66 d_gd_near_13 (by decide) (by omega) (by omega) (fun c13 => ?_) (fun c13 => ?_)
      · skip
        refine V_iload_3 d_gd_near_66 ?_
        refine V_ireturn d_gd_near_67 (hR _ _ ⟨?_, rfl⟩)
        rw [hb, show i = A 0 4 0 by omega]
      · skip
        obtain ⟨⟨e0, e1, e2, -, -⟩, -, b1, b2, -, -⟩ := hG.sg hW h0 (by omega)
        have ef := hG.far hp b1
        have bf := (hW.2.2.1 p (A 7 i 1) hp.1 hp.2 b1.1 b1.2).1
        refine V_iload_2 d_gd_near_16 ?_
        refine V_aload_0 d_gd_near_17 ?_
        refine V_getR d_gd_near_18 fl_gd_38 (is_gd hg) (r_gd_sightings hg) ?_
        refine V_iload_4 d_gd_near_21 ?_
        refine V_aald d_gd_near_23 (is_gd_sightings hg) (by omega) (by omega) (r_gd_sightingsrow hg (by omega)) ?_
        refine V_iconst 2 d_gd_near_24 ?_
        refine V_iald d_gd_near_25 (is_gd_sightings_row hg (by omega)) (by omega) (by omega) ?_
        refine V_isub d_gd_near_26 ?_
        refine V_csI1 d_gd_near_27 ml_gd_88 ms_jm_abs (by decide) (Nat.le_of_ble_eq_true rfl) (ok_abs (by omega)) ?_
        rintro _ f2 ⟨rfl, e2⟩
        rw [e2]; clear e2 f2
        refine V_istore_5 d_gd_near_30 rfl ?_
        refine V_iload_5 d_gd_near_32 ?_
        refine V_aload_0 d_gd_near_34 ?_
        refine V_getR d_gd_near_35 fl_gd_35 (is_gd hg) (r_gd_hours hg) ?_
        refine V_iload_1 d_gd_near_38 ?_
        refine V_aald d_gd_near_39 (is_gd_hours hg) (by omega) (by omega) (r_gd_hoursrow hg (by omega)) ?_
        refine V_aload_0 d_gd_near_40 ?_
        refine V_getR d_gd_near_41 fl_gd_38 (is_gd hg) (r_gd_sightings hg) ?_
        refine V_iload_4 d_gd_near_44 ?_
        refine V_aald d_gd_near_46 (is_gd_sightings hg) (by omega) (by omega) (r_gd_sightingsrow hg (by omega)) ?_
        refine V_iconst 1 d_gd_near_47 ?_
        refine V_iald d_gd_near_48 (is_gd_sightings_row hg (by omega)) (by omega) (by omega) ?_
        refine V_iald d_gd_near_49 (is_gd_hours_row hg (by omega)) (by omega) (by omega) ?_
        rw [e1, ef, e2]
        refine V_icmp_lt 60 d_gd_near_50 (by decide) (by split <;> omega) (by omega) (fun c50 => ?_) (fun c50 => ?_)
        · skip
          refine V_iinc_4 d_gd_near_60 rfl ?_
          refine V_goto 5 d_gd_near_63 (by decide) ?_
          refine ih _ _ _ (by omega) (by omega) (by omega) ?_
          rw [mB_step _ (by omega), hb]
          have : near A p t i = false := by unfold near iabs; simp only [decide_eq_false_iff_not]; omega
          rw [this]; rfl
        · skip
          refine V_iload_3 d_gd_near_53 ?_
          refine V_iconst 1 d_gd_near_54 ?_
          refine V_iload_4 d_gd_near_55 ?_
          refine V_ishl d_gd_near_57 ?_
          refine V_ior d_gd_near_58 ?_
          refine V_istore_3 d_gd_near_59 rfl ?_
          refine V_iinc_4 d_gd_near_60 rfl ?_
          refine V_goto 5 d_gd_near_63 (by decide) ?_
          refine ih _ _ _ (by omega) (by omega) (by omega) ?_
          rw [mB_step _ (by omega), hb]
          have : near A p t i = true := by unfold near iabs; simp only [decide_eq_true_eq]; omega
          rw [this]; rfl
  refine V_iconst 0 d_gd_near_0 ?_
  refine V_istore_3 d_gd_near_1 rfl ?_
  refine V_iconst 0 d_gd_near_2 ?_
  refine V_istore_4 d_gd_near_3 rfl ?_
  exact loop _ _ _ _ (Nat.lt_succ_self _) (by decide) (by omega) (mB_lt0 _).symm
end GUILD
