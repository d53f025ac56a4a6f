/-! the class: first and last by hour; shade; days -/
section HS4
variable {D : q_D} {f : q_F} {A : q_As} {g h g1 : Int}
def FS (A : q_As) (p : Int → Bool) (n a : Int) : Prop := (a = -1 ∧ ∀ t, 0 ≤ t → t < n → p t = false) ∨ ((0 ≤ a ∧ a < n) ∧ p a = true ∧ ∀ t, 0 ≤ t → t < n → p t = true → A 7 a 2 < A 7 t 2 ∨ (A 7 a 2 = A 7 t 2 ∧ a ≤ t))
def LSt (A : q_As) (p : Int → Bool) (n a : Int) : Prop := (a = -1 ∧ ∀ t, 0 ≤ t → t < n → p t = false) ∨ ((0 ≤ a ∧ a < n) ∧ p a = true ∧ ∀ t, 0 ≤ t → t < n → p t = true → A 7 t 2 ≤ A 7 a 2)
theorem FS_uniq {p : Int → Bool} {n a b : Int} (ha : FS A p n a) (hb : FS A p n b) : a = b := by
  rcases ha with ⟨ha1, ha2⟩ | ⟨ha1, ha2, ha3⟩ <;> rcases hb with ⟨hb1, hb2⟩ | ⟨hb1, hb2, hb3⟩
  · omega
  · rw [ha2 b hb1.1 hb1.2] at hb2; cases hb2
  · rw [hb2 a ha1.1 ha1.2] at ha2; cases ha2
  · have h1 := ha3 b hb1.1 hb1.2 hb2
    have h2 := hb3 a ha1.1 ha1.2 ha2
    omega
theorem fsN_ok (p : Int → Bool) : ∀ (m : Nat) (i a : Int), 0 ≤ i → FS A p i a → FS A p (i + m) (fsN A p m i a) := by
  intro m
  induction m with
  | zero => intro i a _ h; unfold fsN; simpa using h
  | succ m ih =>
    intro i a h0 h
    unfold fsN
    have e : i + ((m + 1 : Nat) : Int) = (i + 1) + (m : Int) := by omega
    rw [e]
    refine ih (i + 1) _ (by omega) ?_
    split
    · next hc =>
      right
      refine ⟨⟨h0, by omega⟩, hc.1, fun t t0 t1 ht => ?_⟩
      by_cases e2 : t = i
      · subst e2; omega
      · rcases h with ⟨h1, h2⟩ | ⟨h1, h2, h3⟩
        · rw [h2 t t0 (by omega)] at ht; cases ht
        · have := h3 t t0 (by omega) ht
          rcases hc.2 with hc2 | hc2 <;> omega
    · next hc =>
      rcases h with ⟨h1, h2⟩ | ⟨h1, h2, h3⟩
      · left
        refine ⟨h1, fun t t0 t1 => ?_⟩
        by_cases e2 : t = i
        · subst e2
          cases hp : p t
          · rfl
          · exact absurd ⟨hp, Or.inl h1⟩ hc
        · exact h2 t t0 (by omega)
      · right
        refine ⟨⟨h1.1, by omega⟩, h2, fun t t0 t1 ht => ?_⟩
        by_cases e2 : t = i
        · subst e2
          by_cases e3 : A 7 t 2 < A 7 a 2
          · exact absurd ⟨ht, Or.inr e3⟩ hc
          · omega
        · exact h3 t t0 (by omega) ht
theorem ltN_ok (p : Int → Bool) : ∀ (m : Nat) (i a : Int), 0 ≤ i → LSt A p i a → LSt A p (i + m) (ltN A p m i a) := by
  intro m
  induction m with
  | zero => intro i a _ h; unfold ltN; simpa using h
  | succ m ih =>
    intro i a h0 h
    unfold ltN
    have e : i + ((m + 1 : Nat) : Int) = (i + 1) + (m : Int) := by omega
    rw [e]
    refine ih (i + 1) _ (by omega) ?_
    split
    · next hc =>
      right
      refine ⟨⟨h0, by omega⟩, hc.1, fun t t0 t1 ht => ?_⟩
      by_cases e2 : t = i
      · subst e2; omega
      · rcases h with ⟨h1, h2⟩ | ⟨h1, h2, h3⟩
        · rw [h2 t t0 (by omega)] at ht; cases ht
        · have := h3 t t0 (by omega) ht
          rcases hc.2 with hc2 | hc2 <;> omega
    · next hc =>
      rcases h with ⟨h1, h2⟩ | ⟨h1, h2, h3⟩
      · left
        refine ⟨h1, fun t t0 t1 => ?_⟩
        by_cases e2 : t = i
        · subst e2
          cases hp : p t
          · rfl
          · exact absurd ⟨hp, Or.inl h1⟩ hc
        · exact h2 t t0 (by omega)
      · right
        refine ⟨⟨h1.1, by omega⟩, h2, fun t t0 t1 ht => ?_⟩
        by_cases e2 : t = i
        · subst e2
          by_cases e3 : A 7 a 2 < A 7 t 2
          · exact absurd ⟨ht, Or.inr e3⟩ hc
          · omega
        · exact h3 t t0 (by omega) ht
theorem first_ok (hW : Wg A) (p : Int → Bool) : FS A p (A 0 4 0) (first A p) := by
  have hn := hW.1
  have := fsN_ok (A := A) p (A 0 4 0).toNat 0 (-1) (by decide) (Or.inl ⟨rfl, fun t a b => by omega⟩)
  rw [show (0 : Int) + ((A 0 4 0).toNat : Int) = A 0 4 0 by omega] at this
  exact this
theorem last_ok (hW : Wg A) (p : Int → Bool) : LSt A p (A 0 4 0) (last A p) := by
  have hn := hW.1
  have := ltN_ok (A := A) p (A 0 4 0).toNat 0 (-1) (by decide) (Or.inl ⟨rfl, fun t a b => by omega⟩)
  rw [show (0 : Int) + ((A 0 4 0).toNat : Int) = A 0 4 0 by omega] at this
  exact this
theorem Wg.o1 (hW : Wg A) {i : Int} (h0 : 0 ≤ i) (h1 : i < A 0 4 0) : 0 ≤ A 16 i 0 ∧ A 16 i 0 < A 0 4 0 := hW.2.2.2.2.2.1 i h0 h1
theorem Wg.o2 (hW : Wg A) {i j : Int} (h0 : 0 ≤ i) (h1 : i < j) (h2 : j < A 0 4 0) : A 7 (A 16 i 0) 2 < A 7 (A 16 j 0) 2 ∨ (A 7 (A 16 i 0) 2 = A 7 (A 16 j 0) 2 ∧ A 16 i 0 < A 16 j 0) := hW.2.2.2.2.2.2.1 i j h0 h1 h2
theorem Wg.o3 (hW : Wg A) {s : Int} (h0 : 0 ≤ s) (h1 : s < A 0 4 0) : ∃ i, 0 ≤ i ∧ i < A 0 4 0 ∧ A 16 i 0 = s := hW.2.2.2.2.2.2.2 s h0 h1
theorem ok_firstByHour (hg : q_G g) (hG : Cg g f A) (hW : Wg A) (p : Int → Bool) : OkI D m_gd_firstByHour [vr D g, vi (mB p)] (Zg g1 h) f (fun x f' => x = first A p ∧ f' = f) := by
  have hn := hW.1
  have e4 := hG.c4
  refine OkI_of (L0 := [vr D g, vi (mB p), vu]) mi_gd_firstByHour rfl rfl (Nat.le_of_ble_eq_true rfl) (fun C hR => ?_)
  have loop : ∀ (m : Nat) (k : Int), k + m = A 0 4 0 → 0 ≤ k → (∀ j, 0 ≤ j → j < k → p (A 16 j 0) = false) → V D C m_gd_firstByHour 2 [vr D g, vi (mB p), vi k] [] (Zg g1 h) f := by
    intro m
    induction m with
    | zero =>
      intro k hm h0 hb
      refine V_iload_2 d_gd_firstByHour_2 ?_
      refine V_aload_0 d_gd_firstByHour_3 ?_
      refine V_getR d_gd_firstByHour_4 fl_gd_9 (is_gd hg) (r_gd_counts hg) ?_
      refine V_iconst 4 d_gd_firstByHour_7 ?_
      refine V_iald d_gd_firstByHour_8 (is_gd_counts hg) (by omega) (by omega) ?_
      refine V_icmp_ge 39 d_gd_firstByHour_9 (by decide) (by omega) (by omega) (fun c9 => ?_) (fun c9 => by omega)
      refine V_iconst (-1) d_gd_firstByHour_39 ?_
      refine V_ireturn d_gd_firstByHour_40 (hR _ _ ?_)
      refine ⟨FS_uniq (Or.inl ⟨rfl, fun t t0 t1 => ?_⟩) (first_ok hW p), rfl⟩
      obtain ⟨i, i0, i1, i2⟩ := hW.o3 t0 t1
      rw [← i2]; exact hb i i0 (by omega)
    | succ m ih =>
      intro k hm h0 hb
      have ek := hG.ord h0 (by omega)
      have bk := hW.o1 h0 (by omega)
      refine V_iload_2 d_gd_firstByHour_2 ?_
      refine V_aload_0 d_gd_firstByHour_3 ?_
      refine V_getR d_gd_firstByHour_4 fl_gd_9 (is_gd hg) (r_gd_counts hg) ?_
      refine V_iconst 4 d_gd_firstByHour_7 ?_
      refine V_iald d_gd_firstByHour_8 (is_gd_counts hg) (by omega) (by omega) ?_
      refine V_icmp_ge 39 d_gd_firstByHour_9 (by decide) (by omega) (by omega) (fun c9 => by omega) (fun c9 => ?_)
      refine V_iload_1 d_gd_firstByHour_12 ?_
      refine V_aload_0 d_gd_firstByHour_13 ?_
      refine V_getR d_gd_firstByHour_14 fl_gd_50 (is_gd hg) (r_gd_byHour hg) ?_
      refine V_iload_2 d_gd_firstByHour_17 ?_
      refine V_iald d_gd_firstByHour_18 (is_gd_byHour hg) (by omega) (by omega) ?_
      rw [ek]
      refine V_ishr d_gd_firstByHour_19 ?_
      refine V_iconst 1 d_gd_firstByHour_20 ?_
      refine V_iand d_gd_firstByHour_21 ?_
      refine V_iconst 1 d_gd_firstByHour_22 ?_
      refine V_icmp_ne 33 d_gd_firstByHour_23 (by decide) (mB_shrrg _ _) (by decide) (fun c23 => ?_) (fun c23 => ?_)
      · skip
        rw [mB_ib0 _ (by omega)] at c23
        refine V_iinc_2 d_gd_firstByHour_33 rfl ?_
        refine V_goto 2 d_gd_firstByHour_36 (by decide) ?_
        refine ih _ (by omega) (by omega) (fun j j0 j1 => ?_)
        by_cases e : j = k
        · rw [e]; exact c23
        · exact hb j j0 (by omega)
      · skip
        rw [mB_ib _ (by omega)] at c23
        refine V_aload_0 d_gd_firstByHour_26 ?_
        refine V_getR d_gd_firstByHour_27 fl_gd_50 (is_gd hg) (r_gd_byHour hg) ?_
        refine V_iload_2 d_gd_firstByHour_30 ?_
        refine V_iald d_gd_firstByHour_31 (is_gd_byHour hg) (by omega) (by omega) ?_
        rw [ek]
        refine V_ireturn d_gd_firstByHour_32 (hR _ _ ?_)
        refine ⟨FS_uniq (Or.inr ⟨bk, c23, fun t t0 t1 ht => ?_⟩) (first_ok hW p), rfl⟩
        obtain ⟨i, i0, i1, i2⟩ := hW.o3 t0 t1
        rw [← i2] at ht ⊢
        rcases Int.lt_trichotomy i k with e | e | e
        · rw [hb i i0 e] at ht; cases ht
        · subst e; omega
        · have := hW.o2 h0 e i1; omega
  refine V_iconst 0 d_gd_firstByHour_0 ?_
  refine V_istore_2 d_gd_firstByHour_1 rfl ?_
  exact loop (A 0 4 0).toNat _ (by omega) (by decide) (fun j a b => by omega)
theorem ok_hoursAlong (hg : q_G g) (hG : Cg g f A) (hW : Wg A) (p : Int → Bool) : OkI D m_gd_hoursAlong [vr D g, vi (mB p)] (Zg g1 h) f (fun x f' => x = along A p ∧ f' = f) := by
  have hn := hW.1
  have e4 := hG.c4
  have hfs := first_ok hW p
  have hfr : -1 ≤ first A p ∧ first A p < 24 := by rcases hfs with h | h <;> omega
  refine OkI_of (L0 := [vr D g, vi (mB p), vu, vu, vu]) mi_gd_hoursAlong rfl rfl (Nat.le_of_ble_eq_true rfl) (fun C hR => ?_)
  have loop : ∀ (m : Nat) (k a : Int), k + m = A 0 4 0 → 0 ≤ k → ((a = 0 ∧ ∀ j, 0 ≤ j → j < k → p (A 16 j 0) = false) ∨ (∃ j, 0 ≤ j ∧ j < k ∧ p (A 16 j 0) = true ∧ a = A 7 (A 16 j 0) 2 - A 7 (first A p) 2 ∧ ∀ i, 0 ≤ i → i < k → p (A 16 i 0) = true → i ≤ j)) → V D C m_gd_hoursAlong 11 [vr D g, vi (mB p), vi (first A p), vi a, vi k] [] (Zg g1 h) f := by
    intro m
    induction m with
    | zero =>
      intro k a hm h0 hb
      refine V_iload_4 d_gd_hoursAlong_11 ?_
      refine V_aload_0 d_gd_hoursAlong_13 ?_
      refine V_getR d_gd_hoursAlong_14 fl_gd_9 (is_gd hg) (r_gd_counts hg) ?_
      refine V_iconst 4 d_gd_hoursAlong_17 ?_
      refine V_iald d_gd_hoursAlong_18 (is_gd_counts hg) (by omega) (by omega) ?_
      refine V_icmp_ge 72 d_gd_hoursAlong_19 (by decide) (by omega) (by omega) (fun c19 => ?_) (fun c19 => by omega)
      refine V_iload_3 d_gd_hoursAlong_72 ?_
      refine V_ireturn d_gd_hoursAlong_73 (hR _ _ ?_)
      refine ⟨?_, rfl⟩
      have hk : k = A 0 4 0 := by omega
      subst hk
      unfold along
      have hls := last_ok hW p
      rcases hb with ⟨h1, h2⟩ | ⟨j, j0, j1, j2, j3, j4⟩
      · have hno : ∀ t, 0 ≤ t → t < A 0 4 0 → p t = false := fun t t0 t1 => by
          obtain ⟨i, i0, i1, i2⟩ := hW.o3 t0 t1
          rw [← i2]; exact h2 i i0 i1
        rw [if_pos (FS_uniq hfs (Or.inl ⟨rfl, hno⟩))]; exact h1
      · have bj := hW.o1 j0 j1
        have hne : ¬ first A p = -1 := fun e => by
          rcases hfs with ⟨-, h⟩ | h
          · rw [h _ bj.1 bj.2] at j2; cases j2
          · omega
        rw [if_neg hne, j3]
        rcases hls with ⟨-, h⟩ | ⟨h1, h2, h3⟩
        · rw [h _ bj.1 bj.2] at j2; cases j2
        · have a1 := h3 _ bj.1 bj.2 j2
          obtain ⟨i, i0, i1, i2⟩ := hW.o3 h1.1 h1.2
          have a2 := j4 i i0 i1 (by rw [i2]; exact h2)
          rw [← i2] at a1 ⊢
          by_cases e : i = j
          · subst e; rfl
          · have := hW.o2 i0 (show i < j by omega) j1; omega
    | succ m ih =>
      intro k a hm h0 hb
      have ek := hG.ord h0 (by omega)
      have bk := hW.o1 h0 (by omega)
      obtain ⟨⟨-, -, eh, -⟩, -, -, bh, -⟩ := hG.sg hW bk.1 bk.2
      refine V_iload_4 d_gd_hoursAlong_11 ?_
      refine V_aload_0 d_gd_hoursAlong_13 ?_
      refine V_getR d_gd_hoursAlong_14 fl_gd_9 (is_gd hg) (r_gd_counts hg) ?_
      refine V_iconst 4 d_gd_hoursAlong_17 ?_
      refine V_iald d_gd_hoursAlong_18 (is_gd_counts hg) (by omega) (by omega) ?_
      refine V_icmp_ge 72 d_gd_hoursAlong_19 (by decide) (by omega) (by omega) (fun c19 => by omega) (fun c19 => ?_)
      refine V_iload_2 d_gd_hoursAlong_22 ?_
      refine V_iconst (-1) d_gd_hoursAlong_23 ?_
      refine V_icmp_eq 72 d_gd_hoursAlong_24 (by decide) (by omega) (by omega) (fun c24 => ?_) (fun c24 => ?_)
      · skip
        have hno : ∀ t, 0 ≤ t → t < A 0 4 0 → p t = false := by
          rcases hfs with ⟨-, h⟩ | h
          · exact h
          · omega
        refine V_iload_3 d_gd_hoursAlong_72 ?_
        refine V_ireturn d_gd_hoursAlong_73 (hR _ _ ?_)
        refine ⟨?_, rfl⟩
        unfold along; rw [if_pos c24]
        rcases hb with ⟨h1, h2⟩ | ⟨j, j0, j1, j2, -⟩
        · exact h1
        · have bj := hW.o1 j0 (show j < A 0 4 0 by omega)
          rw [hno _ bj.1 bj.2] at j2; cases j2
      · skip
        obtain ⟨⟨-, -, ef, -⟩, -, -, bf, -⟩ := hG.sg hW (s := first A p) (by omega) (by rcases hfs with h | h <;> omega)
        refine V_iload_1 d_gd_hoursAlong_27 ?_
        refine V_aload_0 d_gd_hoursAlong_28 ?_
        refine V_getR d_gd_hoursAlong_29 fl_gd_50 (is_gd hg) (r_gd_byHour hg) ?_
        refine V_iload_4 d_gd_hoursAlong_32 ?_
        refine V_iald d_gd_hoursAlong_34 (is_gd_byHour hg) (by omega) (by omega) ?_
        rw [ek]
        refine V_ishr d_gd_hoursAlong_35 ?_
        refine V_iconst 1 d_gd_hoursAlong_36 ?_
        refine V_iand d_gd_hoursAlong_37 ?_
        refine V_iconst 1 d_gd_hoursAlong_38 ?_
        refine V_icmp_ne 66 d_gd_hoursAlong_39 (by decide) (mB_shrrg _ _) (by decide) (fun c39 => ?_) (fun c39 => ?_)
        · skip
          rw [mB_ib0 _ (by omega)] at c39
          refine V_iinc_4 d_gd_hoursAlong_66 rfl ?_
          refine V_goto 11 d_gd_hoursAlong_69 (by decide) ?_
          refine ih _ _ (by omega) (by omega) ?_
          rcases hb with ⟨h1, h2⟩ | ⟨j, j0, j1, j2, j3, j4⟩
          · left
            refine ⟨h1, fun j j0 j1 => ?_⟩
            by_cases e : j = k
            · rw [e]; exact c39
            · exact h2 j j0 (by omega)
          · right
            refine ⟨j, j0, by omega, j2, j3, fun i i0 i1 hi => ?_⟩
            by_cases e : i = k
            · rw [e, c39] at hi; cases hi
            · exact j4 i i0 (by omega) hi
        · skip
          rw [mB_ib _ (by omega)] at c39
          refine V_aload_0 d_gd_hoursAlong_42 ?_
          refine V_getR d_gd_hoursAlong_43 fl_gd_38 (is_gd hg) (r_gd_sightings hg) ?_
          refine V_aload_0 d_gd_hoursAlong_46 ?_
          refine V_getR d_gd_hoursAlong_47 fl_gd_50 (is_gd hg) (r_gd_byHour hg) ?_
          refine V_iload_4 d_gd_hoursAlong_50 ?_
          refine V_iald d_gd_hoursAlong_52 (is_gd_byHour hg) (by omega) (by omega) ?_
          rw [ek]
          refine V_aald d_gd_hoursAlong_53 (is_gd_sightings hg) (by omega) (by omega) (r_gd_sightingsrow hg (by omega)) ?_
          refine V_iconst 2 d_gd_hoursAlong_54 ?_
          refine V_iald d_gd_hoursAlong_55 (is_gd_sightings_row hg (by omega)) (by omega) (by omega) ?_
          refine V_aload_0 d_gd_hoursAlong_56 ?_
          refine V_getR d_gd_hoursAlong_57 fl_gd_38 (is_gd hg) (r_gd_sightings hg) ?_
          refine V_iload_2 d_gd_hoursAlong_60 ?_
          refine V_aald d_gd_hoursAlong_61 (is_gd_sightings hg) (by omega) (by omega) (r_gd_sightingsrow hg (by omega)) ?_
          refine V_iconst 2 d_gd_hoursAlong_62 ?_
          refine V_iald d_gd_hoursAlong_63 (is_gd_sightings_row hg (by omega)) (by omega) (by omega) ?_
          refine V_isub d_gd_hoursAlong_64 ?_
          rw [eh, ef]
          refine V_istore_3 d_gd_hoursAlong_65 rfl ?_
          refine V_iinc_4 d_gd_hoursAlong_66 rfl ?_
          refine V_goto 11 d_gd_hoursAlong_69 (by decide) ?_
          refine ih _ _ (by omega) (by omega) ?_
          right
          exact ⟨k, h0, by omega, c39, rfl, fun i i0 i1 hi => by omega⟩
  refine V_aload_0 d_gd_hoursAlong_0 ?_
  refine V_iload_1 d_gd_hoursAlong_1 ?_
  refine V_cvI1 d_gd_hoursAlong_2 ml_gd_92 mv_gd_firstByHour (by decide) (Nat.le_of_ble_eq_true rfl) (is_gd hg) (ok_firstByHour hg hG hW p) ?_
  rintro _ f2 ⟨rfl, e2⟩
  rw [e2]; clear e2 f2
  refine V_istore_2 d_gd_hoursAlong_5 rfl ?_
  refine V_iconst 0 d_gd_hoursAlong_6 ?_
  refine V_istore_3 d_gd_hoursAlong_7 rfl ?_
  refine V_iconst 0 d_gd_hoursAlong_8 ?_
  refine V_istore_4 d_gd_hoursAlong_9 rfl ?_
  exact loop (A 0 4 0).toNat _ _ (by omega) (by decide) (Or.inl ⟨rfl, fun j a b => by omega⟩)
theorem hs_shade (hS : Cst g f A) (hF : Wf A) {sh w : Int} (hh : -2147483648 ≤ sh ∧ sh < 2147483648) (hw : -2147483648 ≤ w ∧ w < 2147483648) : OkI D m_hs_shade [vr D 0, vi sh, vi w] (Zg g h) f (fun x f' => x = S_shade A sh w ∧ f' = f) := by
  have hn := hF.nn
  have hS' := hS
  obtain ⟨hg, hG, hH, hT⟩ := hS'
  refine OkI_of (L0 := [vr D 0, vi sh, vi w, vu]) mi_hs_shade rfl rfl (Nat.le_of_ble_eq_true rfl) (fun C hR => ?_)
  refine V_aload_0 d_hs_shade_0 ?_
  refine V_iload_1 d_hs_shade_1 ?_
  refine V_cvI1 d_hs_shade_2 ml_hs_149 mv_hs_isShade (by decide) (Nat.le_of_ble_eq_true rfl) is_hs (ok_isShade hS hF hh) ?_
  rintro x2 f2 ⟨hx2, e2⟩
  rw [e2]; clear e2 f2
  refine V_if_ne 10 d_hs_shade_5 (by decide) (by omega) (fun c5 => ?_) (fun c5 => ?_)
  · skip
    refine V_aload_0 d_hs_shade_10 ?_
    refine V_iload_1 d_hs_shade_11 ?_
    refine V_cvI1 d_hs_shade_12 ml_hs_168 mv_hs_heldBy (by decide) (Nat.le_of_ble_eq_true rfl) is_hs (ok_heldBy hS hF hh) ?_
    rintro _ f2 ⟨rfl, e2⟩
    rw [e2]; clear e2 f2
    refine V_istore_3 d_hs_shade_15 rfl ?_
    refine V_iload_2 d_hs_shade_16 ?_
    refine V_tsw 89 d_hs_shade_17 (by decide) (by omega) (fun c17 => ?_) (fun c17 => ?_)
    · skip
      refine V_iconst (-1) d_hs_shade_89 ?_
      refine V_ireturn d_hs_shade_90 (hR _ _ ?_)
      refine ⟨?_, rfl⟩
      unfold S_shade; rw [if_pos (by omega), if_neg (by omega), if_neg (by omega), if_neg (by omega), if_neg (by omega), if_neg (by omega)]
    · rcases (show w = 0 ∨ w = 1 ∨ w = 2 ∨ w = 3 ∨ w = 4 by omega) with rfl | rfl | rfl | rfl | rfl
      · refine V_tsi 52 d_hs_shade_17 (by decide) (by decide) rfl (by decide) ?_
        refine V_iload_3 d_hs_shade_52 ?_
        refine V_csI1 d_hs_shade_53 ml_hs_103 ms_ji_bitCount (by decide) (Nat.le_of_ble_eq_true rfl) (ok_bitCount) ?_
        rintro _ f2 ⟨rfl, e2⟩
        rw [e2]; clear e2 f2
        refine V_ireturn d_hs_shade_56 (hR _ _ ?_)
        refine ⟨?_, rfl⟩
        unfold S_shade; rw [if_pos (by omega)]; rfl
      · refine V_tsi 57 d_hs_shade_17 (by decide) (by decide) rfl (by decide) ?_
        refine V_aload_0 d_hs_shade_57 ?_
        refine V_iload_1 d_hs_shade_58 ?_
        refine V_iload_3 d_hs_shade_59 ?_
        refine V_cvI2 d_hs_shade_60 ml_hs_236 mv_hs_pricesOf (by decide) (Nat.le_of_ble_eq_true rfl) is_hs (ok_pricesOf hS hF (by omega) _) ?_
        rintro _ f2 ⟨rfl, e2⟩
        rw [e2]; clear e2 f2
        refine V_ireturn d_hs_shade_63 (hR _ _ ?_)
        refine ⟨?_, rfl⟩
        unfold S_shade; rw [if_pos (by omega)]; rfl
      · refine V_tsi 64 d_hs_shade_17 (by decide) (by decide) rfl (by decide) ?_
        refine V_aload_0 d_hs_shade_64 ?_
        refine V_getR d_hs_shade_65 fl_hs_57 is_hs (r_hs_now hg) ?_
        refine V_iload_3 d_hs_shade_68 ?_
        refine V_cvI1 d_hs_shade_69 ml_hs_239 mv_gd_firstByHour (by decide) (Nat.le_of_ble_eq_true rfl) (is_gd hg) (ok_firstByHour hg hG hF.1 _) ?_
        rintro _ f2 ⟨rfl, e2⟩
        rw [e2]; clear e2 f2
        refine V_ireturn d_hs_shade_72 (hR _ _ ?_)
        refine ⟨?_, rfl⟩
        unfold S_shade; rw [if_pos (by omega)]; rfl
      · refine V_tsi 73 d_hs_shade_17 (by decide) (by decide) rfl (by decide) ?_
        refine V_aload_0 d_hs_shade_73 ?_
        refine V_getR d_hs_shade_74 fl_hs_57 is_hs (r_hs_now hg) ?_
        refine V_iload_3 d_hs_shade_77 ?_
        refine V_cvI1 d_hs_shade_78 ml_hs_242 mv_gd_hoursAlong (by decide) (Nat.le_of_ble_eq_true rfl) (is_gd hg) (ok_hoursAlong hg hG hF.1 _) ?_
        rintro _ f2 ⟨rfl, e2⟩
        rw [e2]; clear e2 f2
        refine V_ireturn d_hs_shade_81 (hR _ _ ?_)
        refine ⟨?_, rfl⟩
        unfold S_shade; rw [if_pos (by omega)]; rfl
      · refine V_tsi 82 d_hs_shade_17 (by decide) (by decide) rfl (by decide) ?_
        refine V_aload_0 d_hs_shade_82 ?_
        refine V_iload_1 d_hs_shade_83 ?_
        refine V_iload_3 d_hs_shade_84 ?_
        refine V_cvI2 d_hs_shade_85 ml_hs_245 mv_hs_leastPassOf (by decide) (Nat.le_of_ble_eq_true rfl) is_hs (ok_leastPassOf hS hF (by omega) _) ?_
        rintro _ f2 ⟨rfl, e2⟩
        rw [e2]; clear e2 f2
        refine V_ireturn d_hs_shade_88 (hR _ _ ?_)
        refine ⟨?_, rfl⟩
        unfold S_shade; rw [if_pos (by omega)]; rfl
  · skip
    refine V_iconst (-1) d_hs_shade_8 ?_
    refine V_ireturn d_hs_shade_9 (hR _ _ ?_)
    refine ⟨?_, rfl⟩
    unfold S_shade; rw [if_neg (by omega)]
theorem rnd_rg (x : Int) : 0 ≤ rnd x ∧ rnd x < 2147483648 := by unfold rnd; omega
theorem ok_drawOfThousand {x : Int} (hx : f 0 7 = x) (hb : 0 ≤ x ∧ x < 2147483648) : OkI D m_hs_drawOfThousand [vr D 0] (Zg g h) f (fun r f' => r = rnd x / 64 % 1000 ∧ f' = q_up f 0 7 (rnd x)) := by
  have hr := rnd_rg x
  refine OkI_of (L0 := [vr D 0]) mi_hs_drawOfThousand rfl rfl (Nat.le_of_ble_eq_true rfl) (fun C hR => ?_)
  refine V_aload_0 d_hs_drawOfThousand_0 ?_
  refine V_ldc2 1103515245 d_hs_drawOfThousand_1 co_hs_255 rfl ?_
  refine V_aload_0 d_hs_drawOfThousand_4 ?_
  refine V_getI d_hs_drawOfThousand_5 fl_hs_50 is_hs ?_
  rw [hx]
  refine V_i2l d_hs_drawOfThousand_8 (by omega) ?_
  refine V_lmul d_hs_drawOfThousand_9 ?_
  refine V_ldc2 12345 d_hs_drawOfThousand_10 co_hs_257 rfl ?_
  refine V_ladd d_hs_drawOfThousand_13 ?_
  refine V_ldc2 2147483648 d_hs_drawOfThousand_14 co_hs_259 rfl ?_
  refine V_lrem d_hs_drawOfThousand_17 (by omega) (by omega) ?_
  refine V_l2i d_hs_drawOfThousand_18 ?_
  rw [show (1103515245 * x + 12345) % 2147483648 = rnd x from rfl]
  refine V_putI d_hs_drawOfThousand_19 fl_hs_50 is_hs ?_
  refine V_aload_0 d_hs_drawOfThousand_22 ?_
  refine V_getI d_hs_drawOfThousand_23 fl_hs_50 is_hs ?_
  rw [q_up_eq]
  refine V_bipush 64 d_hs_drawOfThousand_26 (by decide) ?_
  refine V_idiv d_hs_drawOfThousand_28 (by omega) (by omega) ?_
  refine V_sipush 1000 d_hs_drawOfThousand_29 (by decide) ?_
  refine V_irem d_hs_drawOfThousand_32 (by omega) (by omega) ?_
  refine V_ireturn d_hs_drawOfThousand_33 (hR _ _ ?_)
  exact ⟨rfl, rfl⟩
/-- the drawn number alone differs -/
theorem Cst.drawn (hS : Cst g f A) (x : Int) : Cst g (q_up f 0 7 x) (A_drawn A x) := by
  obtain ⟨hg, hG, hH, hT⟩ := hS
  have hg0 : 51 ≤ g := by rcases hg with rfl | rfl <;> decide
  have hA : ∀ c i j, c ≠ 13 → A_drawn A x c i j = A c i j := fun c i j hc => by unfold A_drawn; rw [if_neg (fun e => hc e.1)]
  have hB : ∀ j, j ≠ 4 → A_drawn A x 13 0 j = A 13 0 j := fun j hj => by unfold A_drawn; rw [if_neg (fun e => hj e.2.2)]
  have hcan : ∀ s t, can (A_drawn A x) s t = can A s t := fun s t => rfl
  refine ⟨hg, ?_, ?_, ?_⟩
  · obtain ⟨c1, c2, c3, c4, c5, c6, c7, c8, c9, c10, c11, c12⟩ := hG
    refine ⟨fun k a b => ?_, ?_, fun i w k a b c d e e2 => ?_, fun t w a b c d => ?_, fun p t a b c d => ?_, fun p t a b c d => ?_, fun p a b => ?_, fun p t a b c d => ?_, fun p t a b c d => ?_, fun p t a b c d => ?_, fun s a b => ?_, fun s a b => ?_⟩
    · rw [q_up_at (by omega)]; exact c1 k a b
    · rw [q_up_at (by omega)]; exact c2
    · rw [q_up_at (by omega)]; exact c3 i w k a b c d e e2
    · rw [q_up_at (by omega)]; exact c4 t w a b c d
    · rw [q_up_at (by omega)]; exact c5 p t a b c d
    · rw [q_up_at (by omega), q_up_at (by omega)]; exact c6 p t a b c d
    · rw [q_up_at (by omega)]; exact c7 p a b
    · rw [q_up_at (by omega)]; exact c8 p t a b c d
    · rw [q_up_at (by omega)]; exact c9 p t a b c d
    · rw [q_up_at (by omega), q_up_at (by omega)]; exact c10 p t a b c d
    · rw [q_up_at (by omega)]; exact c11 s a b
    · rw [q_up_at (by omega)]; exact c12 s a b
  · obtain ⟨c1, c2, c3, c4⟩ := hH
    refine ⟨fun s a b => ?_, ?_, ?_, fun n s a b c d => ?_⟩
    · rw [q_up_at (by decide)]; exact c1 s a b
    · rw [q_up_at (by decide), hB _ (by decide)]; exact c2
    · rw [q_up_at (by decide)]; exact c3
    · rw [hB _ (by decide)] at b ⊢
      rw [q_up_at (j := 0) (a := 10) (by decide), q_up_at (by omega)]
      exact c4 n s a b c d
  · obtain ⟨c1, c2, c3, c4, c5, c6, c7⟩ := hT
    refine ⟨?_, fun k a b => ?_, ?_, ?_, ?_, ?_, fun k a b => ?_⟩
    · rw [q_up_at (by decide), hB _ (by decide)]; exact c1
    · rw [hB _ (by decide)] at b; rw [q_up_at (by decide)]; exact c2 k a b
    · rw [q_up_at (by decide), hB _ (by decide)]; exact c3
    · rw [q_up_at (by decide), hB _ (by decide)]; exact c4
    · rw [q_up_eq]; unfold A_drawn; rw [if_pos ⟨rfl, rfl, rfl⟩]
    · rw [q_up_ne (Or.inr (by decide)), hB _ (by decide)]; exact c6
    · rw [hB _ (by decide)] at b; rw [q_up_at (by decide)]; exact c7 k a b
theorem dsN_rg (hF : Wf A) : ∀ (m : Nat) (s x a b : Int), (0 ≤ x ∧ x < 2147483648) → 0 ≤ (dsN A m s x a b).1 ∧ (dsN A m s x a b).1 < 2147483648 := by
  intro m
  induction m with
  | zero => intro s x a b h; exact h
  | succ m ih =>
    intro s x a b h
    unfold dsN
    split
    · exact ih _ _ _ _ h
    · split
      · exact ih _ _ _ _ (rnd_rg x)
      · exact ih _ _ _ _ (rnd_rg x)
theorem dyN_rg (hF : Wf A) : ∀ (m : Nat) (x a b : Int), (0 ≤ x ∧ x < 2147483648) → 0 ≤ (dyN A m x a b).1 ∧ (dyN A m x a b).1 < 2147483648 := by
  intro m
  induction m with
  | zero => intro x a b h; exact h
  | succ m ih => intro x a b h; unfold dyN; exact ih _ _ _ (dsN_rg hF _ _ _ _ _ h)
theorem hs_days (hS : Cst g f A) (hF : Wf A) {n w : Int} (hn1 : -2147483648 ≤ n ∧ n < 2147483648) (hw : -2147483648 ≤ w ∧ w < 2147483648) : OkI D m_hs_days [vr D 0, vi n, vi w] (Zg g h) f (fun r f' => r = S_days A n w ∧ (f' = if (1 ≤ n ∧ n ≤ 100) ∧ (0 ≤ w ∧ w ≤ 1) then q_up f 0 7 (dyN A n.toNat (A 13 0 4) 0 0).1 else f)) := by
  have hn := hF.nn
  have hS' := hS
  obtain ⟨hg, hG, hH, hT⟩ := hS'
  have hg0 : 51 ≤ g := by rcases hg with rfl | rfl <;> decide
  have e4 := hG.c4
  have hGx : ∀ x, Cg g (q_up f 0 7 x) A := fun x => (hS.drawn x).2.1
  have hHx : ∀ x, Ch (q_up f 0 7 x) A := fun x => (hS.drawn x).2.2.1
  refine OkI_of (L0 := [vr D 0, vi n, vi w, vu, vu, vu, vu, vu]) mi_hs_days rfl rfl (Nat.le_of_ble_eq_true rfl) (fun C hR => ?_)
  by_cases hv : (1 ≤ n ∧ n ≤ 100) ∧ (0 ≤ w ∧ w ≤ 1)
  · simp only [if_pos hv] at hR
    have inner : ∀ (m : Nat) (s x a b d x' a' b' : Int) (a7 : Value) (K : ∀ a7 : Value, V D C m_hs_days 137 [vr D 0, vi n, vi w, vi a', vi b', vi d, vi (A 0 4 0), a7] [] (Zg g h) (q_up f 0 7 x')), s + m = A 0 4 0 → 0 ≤ s → (0 ≤ x ∧ x < 2147483648) → dsN A m s x a b = (x', a', b') → V D C m_hs_days 40 [vr D 0, vi n, vi w, vi a, vi b, vi d, vi s, a7] [] (Zg g h) (q_up f 0 7 x) := by
      intro m
      induction m with
      | zero =>
        intro s x a b d x' a' b' a7 K hm h0 hx hr
        have e4' := (hGx x).c4
        unfold dsN at hr
        cases hr
        have hs : s = A 0 4 0 := by omega
        subst hs
        refine V_iload_6 d_hs_days_40 ?_
        refine V_aload_0 d_hs_days_42 ?_
        refine V_getR d_hs_days_43 fl_hs_57 is_hs (r_hs_now hg) ?_
        refine V_getR d_hs_days_46 fl_hs_90 (is_gd hg) (r_gd_counts hg) ?_
        refine V_iconst 4 d_hs_days_49 ?_
        refine V_iald d_hs_days_50 (is_gd_counts hg) (by omega) (by omega) ?_
        refine V_icmp_ge 137 d_hs_days_51 (by decide) (by omega) (by omega) (fun c51 => ?_) (fun c51 => by omega)
        exact K _
      | succ m ih =>
        intro s x a b d x' a' b' a7 K hm h0 hx hr
        have e4' := (hGx x).c4
        obtain ⟨e11, b11, b12⟩ := (hHx x).at hF.2.1 h0 (by omega)
        have hrr := rnd_rg x
        unfold dsN at hr
        refine V_iload_6 d_hs_days_40 ?_
        refine V_aload_0 d_hs_days_42 ?_
        refine V_getR d_hs_days_43 fl_hs_57 is_hs (r_hs_now hg) ?_
        refine V_getR d_hs_days_46 fl_hs_90 (is_gd hg) (r_gd_counts hg) ?_
        refine V_iconst 4 d_hs_days_49 ?_
        refine V_iald d_hs_days_50 (is_gd_counts hg) (by omega) (by omega) ?_
        refine V_icmp_ge 137 d_hs_days_51 (by decide) (by omega) (by omega) (fun c51 => by omega) (fun c51 => ?_)
        refine V_aload_0 d_hs_days_54 ?_
        refine V_getR d_hs_days_55 fl_hs_28 is_hs r_hs_hires ?_
        refine V_getR d_hs_days_58 fl_hs_143 is_hi r_hi_shadeOf ?_
        refine V_iload_6 d_hs_days_61 ?_
        refine V_iald d_hs_days_63 is_hi_shadeOf (by omega) (by omega) ?_
        rw [e11]
        refine V_istore_7 d_hs_days_64 rfl ?_
        refine V_iload_7 d_hs_days_66 ?_
        refine V_iconst (-1) d_hs_days_68 ?_
        refine V_icmp_ne 75 d_hs_days_69 (by decide) (by omega) (by omega) (fun c69 => ?_) (fun c69 => ?_)
        · skip
          rw [if_neg c69] at hr
          obtain ⟨⟨e8, e9⟩, b8, b9⟩ := (hGx (rnd x)).pp hF.1 (k := A 11 s 0) (s := s) (by omega) (by omega)
          refine V_aload_0 d_hs_days_75 ?_
          refine V_cvI0 d_hs_days_76 ml_hs_249 mv_hs_drawOfThousand (by decide) (Nat.le_of_ble_eq_true rfl) is_hs (ok_drawOfThousand (q_up_eq _ _ _ _) hx) ?_
          rintro _ f2 ⟨rfl, e2⟩
          rw [e2]; clear e2 f2
          rw [q_up_up]
          refine V_aload_0 d_hs_days_79 ?_
          refine V_getR d_hs_days_80 fl_hs_57 is_hs (r_hs_now hg) ?_
          refine V_getR d_hs_days_83 fl_hs_152 (is_gd hg) (r_gd_passes hg) ?_
          refine V_iload_7 d_hs_days_86 ?_
          refine V_aald d_hs_days_88 (is_gd_passes hg) (by omega) (by omega) (r_gd_passesrow hg (by omega)) ?_
          refine V_iload_6 d_hs_days_89 ?_
          refine V_iald d_hs_days_91 (is_gd_passes_row hg (by omega)) (by omega) (by omega) ?_
          rw [e8]
          refine V_icmp_ge 112 d_hs_days_92 (by decide) (by omega) (by omega) (fun c92 => ?_) (fun c92 => ?_)
          · skip
            rw [if_neg (by omega)] at hr
            refine V_iload_3 d_hs_days_112 ?_
            refine V_aload_0 d_hs_days_113 ?_
            refine V_getR d_hs_days_114 fl_hs_57 is_hs (r_hs_now hg) ?_
            refine V_getR d_hs_days_117 fl_hs_155 (is_gd hg) (r_gd_prices hg) ?_
            refine V_iload_7 d_hs_days_120 ?_
            refine V_aald d_hs_days_122 (is_gd_prices hg) (by omega) (by omega) (r_gd_pricesrow hg (by omega)) ?_
            refine V_iload_6 d_hs_days_123 ?_
            refine V_iald d_hs_days_125 (is_gd_prices_row hg (by omega)) (by omega) (by omega) ?_
            rw [e9]
            refine V_isub d_hs_days_126 ?_
            refine V_istore_3 d_hs_days_127 rfl ?_
            refine V_iinc_4 d_hs_days_128 rfl ?_
            refine V_iinc_6 d_hs_days_131 rfl ?_
            refine V_goto 40 d_hs_days_134 (by decide) ?_
            exact ih _ _ _ _ _ _ _ _ _ K (by omega) (by omega) hrr hr
          · skip
            rw [if_pos c92] at hr
            refine V_iload_3 d_hs_days_95 ?_
            refine V_aload_0 d_hs_days_96 ?_
            refine V_getR d_hs_days_97 fl_hs_57 is_hs (r_hs_now hg) ?_
            refine V_iload_7 d_hs_days_100 ?_
            refine V_iload_6 d_hs_days_102 ?_
            refine V_cvI2 d_hs_days_104 ml_hs_252 mv_gd_titheOf (by decide) (Nat.le_of_ble_eq_true rfl) (is_gd hg) (ok_titheOf hg (hGx (rnd x)) hF.1 (by omega) (by omega)) ?_
            rintro _ f2 ⟨rfl, e2⟩
            rw [e2]; clear e2 f2
            refine V_iadd d_hs_days_107 ?_
            refine V_istore_3 d_hs_days_108 rfl ?_
            refine V_goto 131 d_hs_days_109 (by decide) ?_
            refine V_iinc_6 d_hs_days_131 rfl ?_
            refine V_goto 40 d_hs_days_134 (by decide) ?_
            exact ih _ _ _ _ _ _ _ _ _ K (by omega) (by omega) hrr hr
        · skip
          rw [if_pos c69] at hr
          refine V_goto 131 d_hs_days_72 (by decide) ?_
          refine V_iinc_6 d_hs_days_131 rfl ?_
          refine V_goto 40 d_hs_days_134 (by decide) ?_
          exact ih _ _ _ _ _ _ _ _ _ K (by omega) (by omega) hx hr
    have outer : ∀ (m : Nat) (d x a b : Int) (a6 a7 : Value), d + m = n → 0 ≤ d → (0 ≤ x ∧ x < 2147483648) → dyN A m x a b = dyN A n.toNat (A 13 0 4) 0 0 → a6.category = 1 → V D C m_hs_days 31 [vr D 0, vi n, vi w, vi a, vi b, vi d, a6, a7] [] (Zg g h) (q_up f 0 7 x) := by
      intro m
      induction m with
      | zero =>
        intro d x a b a6 a7 hm h0 hx hr h6
        generalize hT : dyN A n.toNat (A 13 0 4) 0 0 = T at *
        unfold dyN at hr
        subst hr
        refine V_iload_5 d_hs_days_31 ?_
        refine V_iload_1 d_hs_days_33 ?_
        refine V_icmp_ge 143 d_hs_days_34 (by decide) (by omega) (by omega) (fun c34 => ?_) (fun c34 => by omega)
        refine V_iload_2 d_hs_days_143 ?_
        refine V_if_ne 151 d_hs_days_144 (by decide) (by omega) (fun c144 => ?_) (fun c144 => ?_)
        · skip
          refine V_iload_4 d_hs_days_151 ?_
          refine V_ireturn d_hs_days_153 (hR _ _ ?_)
          refine ⟨?_, rfl⟩
          unfold S_days; rw [if_pos hv, if_neg c144, hT]
        · skip
          refine V_iload_3 d_hs_days_147 ?_
          refine V_goto 153 d_hs_days_148 (by decide) ?_
          refine V_ireturn d_hs_days_153 (hR _ _ ?_)
          refine ⟨?_, rfl⟩
          unfold S_days; rw [if_pos hv, if_pos c144, hT]
      | succ m ih =>
        intro d x a b a6 a7 hm h0 hx hr h6
        generalize hT : dyN A n.toNat (A 13 0 4) 0 0 = T at *
        unfold dyN at hr
        have hx2 := dsN_rg hF (A 0 4 0).toNat 0 x a b hx
        generalize hds : dsN A (A 0 4 0).toNat 0 x a b = U at *
        have K : ∀ a7 : Value, V D C m_hs_days 137 [vr D 0, vi n, vi w, vi U.2.1, vi U.2.2, vi d, vi (A 0 4 0), a7] [] (Zg g h) (q_up f 0 7 U.1) := by
          intro a7
          refine V_iinc_5 d_hs_days_137 rfl ?_
          refine V_goto 31 d_hs_days_140 (by decide) ?_
          exact ih _ _ _ _ _ _ (by omega) (by omega) hx2 hr rfl
        refine V_iload_5 d_hs_days_31 ?_
        refine V_iload_1 d_hs_days_33 ?_
        refine V_icmp_ge 143 d_hs_days_34 (by decide) (by omega) (by omega) (fun c34 => by omega) (fun c34 => ?_)
        refine V_iconst 0 d_hs_days_37 ?_
        refine V_istore_6 d_hs_days_38 rfl ?_
        exact inner (A 0 4 0).toNat 0 x a b d _ _ _ _ K (by omega) (by decide) hx hds
    refine V_iload_1 d_hs_days_0 ?_
    refine V_iconst 1 d_hs_days_1 ?_
    refine V_icmp_lt 20 d_hs_days_2 (by decide) (by omega) (by omega) (fun c2 => by omega) (fun c2 => ?_)
    refine V_iload_1 d_hs_days_5 ?_
    refine V_bipush 100 d_hs_days_6 (by decide) ?_
    refine V_icmp_gt 20 d_hs_days_8 (by decide) (by omega) (by omega) (fun c8 => by omega) (fun c8 => ?_)
    refine V_iload_2 d_hs_days_11 ?_
    refine V_if_lt 20 d_hs_days_12 (by decide) (by omega) (fun c12 => by omega) (fun c12 => ?_)
    refine V_iload_2 d_hs_days_15 ?_
    refine V_iconst 1 d_hs_days_16 ?_
    refine V_icmp_le 23 d_hs_days_17 (by decide) (by omega) (by omega) (fun c17 => ?_) (fun c17 => by omega)
    refine V_iconst 0 d_hs_days_23 ?_
    refine V_istore_3 d_hs_days_24 rfl ?_
    refine V_iconst 0 d_hs_days_25 ?_
    refine V_istore_4 d_hs_days_26 rfl ?_
    refine V_iconst 0 d_hs_days_28 ?_
    refine V_istore_5 d_hs_days_29 rfl ?_
    refine (?_ : V D C m_hs_days 31 _ _ _ _)
    rw [show f = q_up f 0 7 (A 13 0 4) by rw [← hT.2.2.2.2.1, q_up_self]]
    exact outer n.toNat _ _ _ _ _ _ (by omega) (by decide) hF.2.2.2.2.2.2.1 rfl rfl
  · simp only [if_neg hv] at hR
    have hx : S_days A n w = -1000000000 := by unfold S_days; rw [if_neg hv]
    refine V_iload_1 d_hs_days_0 ?_
    refine V_iconst 1 d_hs_days_1 ?_
    refine V_icmp_lt 20 d_hs_days_2 (by decide) (by omega) (by omega) (fun c2 => ?_) (fun c2 => ?_)
    · skip
      refine V_ldc (-1000000000) d_hs_days_20 co_hs_248 rfl ?_
      refine V_ireturn d_hs_days_22 (hR _ _ ?_)
      exact ⟨hx.symm, rfl⟩
    · skip
      refine V_iload_1 d_hs_days_5 ?_
      refine V_bipush 100 d_hs_days_6 (by decide) ?_
      refine V_icmp_gt 20 d_hs_days_8 (by decide) (by omega) (by omega) (fun c8 => ?_) (fun c8 => ?_)
      · skip
        refine V_ldc (-1000000000) d_hs_days_20 co_hs_248 rfl ?_
        refine V_ireturn d_hs_days_22 (hR _ _ ?_)
        exact ⟨hx.symm, rfl⟩
      · skip
        refine V_iload_2 d_hs_days_11 ?_
        refine V_if_lt 20 d_hs_days_12 (by decide) (by omega) (fun c12 => ?_) (fun c12 => ?_)
        · skip
          refine V_ldc (-1000000000) d_hs_days_20 co_hs_248 rfl ?_
          refine V_ireturn d_hs_days_22 (hR _ _ ?_)
          exact ⟨hx.symm, rfl⟩
        · skip
          refine V_iload_2 d_hs_days_15 ?_
          refine V_iconst 1 d_hs_days_16 ?_
          refine V_icmp_le 23 d_hs_days_17 (by decide) (by omega) (by omega) (fun c17 => ?_) (fun c17 => ?_)
          · skip
            omega
          · skip
            refine V_ldc (-1000000000) d_hs_days_20 co_hs_248 rfl ?_
            refine V_ireturn d_hs_days_22 (hR _ _ ?_)
            exact ⟨hx.symm, rfl⟩
end HS4
