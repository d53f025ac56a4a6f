/-! the class: the chosen ones; persons' bodies -/
def chs (p : Int → Bool) : Int → Int := fun k => nth p k
def PCi (A : q_As) (c : Int → Int) (l h : Int) (k : Nat) (o : Int → Bool) : Int := PC (fun x y : Int => x * y) 0 1 (okS A c l) (smS A c) (cmS A c) (fun _ _ => 1) h k o
section HS11
variable {D : q_D} {f f' : q_F} {A : q_As} {g h : Int}
theorem PCi_rg (c : Int → Int) (l h : Int) : ∀ (k : Nat) (o : Int → Bool), PCi A c l h k o = 0 ∨ PCi A c l h k o = 1 := by
  intro k
  induction k with
  | zero => intro o; right; rfl
  | succ k ih =>
    intro o
    have := ih o
    unfold PCi at this ⊢
    rw [PC]
    split
    · split
      · rw [Int.mul_one]; exact this
      · left; rfl
    · exact this
/-- counted, or told only -/
theorem PCi_t (c : Int → Int) (l h : Int) : ∀ (k : Nat) (o : Int → Bool), PCi A c l h k o = if PCt A c l 0 h k o = none then 0 else 1 := by
  intro k
  induction k with
  | zero => intro o; rfl
  | succ k ih =>
    intro o
    have := ih o
    unfold PCi PCt at this ⊢
    rw [PC, PC]
    split
    · split
      · rw [Int.mul_one, this, show wtS A c 0 h k = some 0 from if_pos rfl]
        cases PC tml none (some 0) (okS A c l) (smS A c) (cmS A c) (wtS A c 0) h k o <;> rfl
      · rfl
    · exact this
theorem ok_choose {p : Int → Bool} {n : Nat} (hn : n = cnt p) (hp : ∀ t, 0 ≤ t → t < 31 → p t = true → t < 24) {w : Int} (hw : 0 ≤ w ∧ w ≤ 8) : OkI D m_cr_choose [vr D 45, vi (mB p), vi w] (Zg g h) f (fun x f' => ((x = 1 ∧ n ≤ w) ∨ (x = 0 ∧ ¬ n ≤ w)) ∧ (∀ j i, ¬ (j = 45 ∧ i = 1) → ¬ j = 46 → f' j i = f j i) ∧ (n ≤ w → f' 45 1 = n ∧ ∀ k : Int, 0 ≤ k → k < n → f' 46 k = nth p k)) := by
  have hcr := cnt_rg p
  refine OkB_of (L0 := [vr D 45, vi (mB p), vi w, vu]) mi_cr_choose rfl rfl (Nat.le_of_ble_eq_true rfl) (fun C hR => ?_)
  have loop : ∀ (m : Nat) (s c : Int) (F : q_F), (n : Int) ≤ w → s + m = 24 → 0 ≤ s → 0 ≤ c → (∀ j i, ¬ (j = 45 ∧ i = 1) → ¬ j = 46 → F j i = f j i) → F 45 1 = c → c + cntN (m + 7) s p = n → (∀ k : Int, 0 ≤ k → k < c → F 46 k = nth p k) → (∀ k : Int, c ≤ k → nthN m s (k - c) p = nth p k) → V D C m_cr_choose 17 [vr D 45, vi (mB p), vi w, vi s] [] (Zg g h) F := by
    intro m
    induction m with
    | zero =>
      intro s c F hv hm h0 hc hf h1 hcn hr hN
      have : cntN 7 s p = 0 := cntN_zero 7 s (fun j a b => by
        cases hj : p j
        · rfl
        · have := hp j (by omega) (by omega) hj; omega)
      rw [Nat.zero_add, this] at hcn
      refine V_iload_3 d_cr_choose_17 ?_
      refine V_bipush 24 d_cr_choose_18 (by decide) ?_
      refine V_icmp_ge 66 d_cr_choose_20 (by decide) (by omega) (by omega) (fun c20 => ?_) (fun c20 => by omega)
      refine V_iconst 1 d_cr_choose_66 ?_
      refine V_ireturn d_cr_choose_67 (hR _ _ (by decide) ?_)
      exact ⟨Or.inl ⟨rfl, hv⟩, hf, fun _ => ⟨by omega, fun k k0 k1 => hr k k0 (by omega)⟩⟩
    | succ m ih =>
      intro s c F hv hm h0 hc hf h1 hcn hr hN
      have hcb := cntN_rg p (m + 1 + 7) s
      rw [show m + 1 + 7 = (m + 7) + 1 by omega, cntN] at hcn
      have hcb2 := cntN_rg p (m + 7) (s + 1)
      refine V_iload_3 d_cr_choose_17 ?_
      refine V_bipush 24 d_cr_choose_18 (by decide) ?_
      refine V_icmp_ge 66 d_cr_choose_20 (by decide) (by omega) (by omega) (fun c20 => by omega) (fun c20 => ?_)
      refine V_aload_0 d_cr_choose_23 ?_
      refine V_getI d_cr_choose_24 fl_cr_30 is_cr ?_
      rw [h1]
      refine V_iload_2 d_cr_choose_27 ?_
      refine V_icmp_ge 66 d_cr_choose_28 (by decide) (by omega) (by omega) (fun c28 => ?_) (fun c28 => ?_)
      · skip
        refine V_iconst 1 d_cr_choose_66 ?_
        refine V_ireturn d_cr_choose_67 (hR _ _ (by decide) ?_)
        have hif : 0 ≤ (if p s then (1 : Int) else 0) := by split <;> decide
        exact ⟨Or.inl ⟨rfl, hv⟩, hf, fun _ => ⟨by omega, fun k k0 k1 => hr k k0 (by omega)⟩⟩
      · skip
        refine V_iload_1 d_cr_choose_31 ?_
        refine V_iload_3 d_cr_choose_32 ?_
        refine V_ishr d_cr_choose_33 ?_
        refine V_iconst 1 d_cr_choose_34 ?_
        refine V_iand d_cr_choose_35 ?_
        refine V_iconst 1 d_cr_choose_36 ?_
        refine V_icmp_ne 60 d_cr_choose_37 (by decide) (mB_shrrg _ _) (by decide) (fun c37 => ?_) (fun c37 => ?_)
        · skip
          rw [mB_ib0 _ (by omega)] at c37
          rw [c37, if_neg (by decide), Int.zero_add] at hcn
          refine V_iinc_3 d_cr_choose_60 rfl ?_
          refine V_goto 17 d_cr_choose_63 (by decide) ?_
          refine ih _ c F hv (by omega) (by omega) hc hf h1 hcn hr (fun k hk => ?_)
          have := hN k hk
          rw [nthN, c37, if_neg (by decide)] at this
          exact this
        · skip
          rw [mB_ib _ (by omega)] at c37
          rw [c37, if_pos rfl] at hcn
          refine V_aload_0 d_cr_choose_40 ?_
          refine V_getR d_cr_choose_41 fl_cr_11 is_cr r_cr_chosen ?_
          refine V_aload_0 d_cr_choose_44 ?_
          refine V_getI d_cr_choose_45 fl_cr_30 is_cr ?_
          rw [h1]
          refine V_iload_3 d_cr_choose_48 ?_
          refine V_iast d_cr_choose_49 is_cr_chosen (by omega) (by omega) ?_
          refine V_aload_0 d_cr_choose_50 ?_
          refine V_dup d_cr_choose_51 rfl ?_
          refine V_getI d_cr_choose_52 fl_cr_30 is_cr ?_
          rw [q_up_at (by decide), h1]
          refine V_iconst 1 d_cr_choose_55 ?_
          refine V_iadd d_cr_choose_56 ?_
          refine V_putI d_cr_choose_57 fl_cr_30 is_cr ?_
          refine V_iinc_3 d_cr_choose_60 rfl ?_
          refine V_goto 17 d_cr_choose_63 (by decide) ?_
          have hcs : s = nth p c := by
            have := hN c (by omega)
            rw [nthN, c37, if_pos rfl, if_pos (by omega)] at this
            exact this
          refine ih _ (c + 1) _ hv (by omega) (by omega) (by omega) (fun j i a b => by rw [q_up_ne (by omega), q_up_at b]; exact hf j i a b) (q_up_eq _ _ _ _) (by omega) (fun k k0 k1 => ?_) (fun k hk => ?_)
          · rw [q_up_at (by decide)]
            by_cases e : k = c
            · rw [q_up_is e, e]; exact hcs
            · rw [q_up_ne (Or.inr e)]; exact hr k k0 (by omega)
          · have := hN k (by omega)
            rw [nthN, c37, if_pos rfl, if_neg (by omega), show k - c - 1 = k - (c + 1) by omega] at this
            exact this
  refine V_iload_1 d_cr_choose_0 ?_
  refine V_csI1 d_cr_choose_1 ml_cr_24 ms_ji_bitCount (by decide) (Nat.le_of_ble_eq_true rfl) (ok_bitCount) ?_
  rintro _ f2 ⟨rfl, e2⟩
  rw [e2]; clear e2 f2
  refine V_iload_2 d_cr_choose_4 ?_
  refine V_icmp_le 10 d_cr_choose_5 (by decide) (by omega) (by omega) (fun c5 => ?_) (fun c5 => ?_)
  · skip
    refine V_aload_0 d_cr_choose_10 ?_
    refine V_iconst 0 d_cr_choose_11 ?_
    refine V_putI d_cr_choose_12 fl_cr_30 is_cr ?_
    refine V_iconst 0 d_cr_choose_15 ?_
    refine V_istore_3 d_cr_choose_16 rfl ?_
    exact loop 24 _ 0 _ (by omega) (by decide) (by decide) (by decide) (fun j i a b => q_up_ne (by omega)) (q_up_eq _ _ _ _) (by rw [hn, Int.zero_add]; rfl) (fun k a b => by omega) (fun k hk => by rw [Int.sub_zero]; rfl)
  · skip
    refine V_iconst 0 d_cr_choose_8 ?_
    refine V_ireturn d_cr_choose_9 (hR _ _ (by decide) ?_)
    exact ⟨Or.inr ⟨rfl, by omega⟩, fun _ _ _ _ => rfl, fun e => by omega⟩
end HS11
