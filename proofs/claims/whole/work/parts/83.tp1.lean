/-! the class's tape: blanks, signs, numbers -/
/-- the tape in the class's cells, read up to p; a word or number ended at e -/
def tpS (f : q_F) (T : Int → Int) (N p e : Int) : Prop := tW T N ∧ f 1 1 = N ∧ (∀ k, 0 ≤ k → k < N → f 2 k = T k) ∧ (0 ≤ f 1 2 ∧ f 1 2 ≤ N) ∧ sk T N (f 1 2) = p ∧ f 1 8 = e ∧ (-1 ≤ e ∧ e ≤ N)
def cK (f f' : q_F) : Prop := ∀ j k, ¬ j = 1 → f' j k = f j k
def cO (f f' : q_F) (T : Int → Int) (N x : Int) (r : q_R (Int × Int)) : Prop := match r with
  | .inl e => x = 0 ∧ f' 1 3 = e.1 ∧ f' 1 4 = e.2 ∧ cK f f'
  | .inr s => x = 1 ∧ tpS f' T N s.1 s.2 ∧ f' 1 3 = f 1 3 ∧ f' 1 4 = f 1 4 ∧ cK f f'
def cV (f f' : q_F) (T : Int → Int) (N p x : Int) (r : q_R (Int × Int × Int)) : Prop := match r with
  | .inl e => x = 0 ∧ f' 1 3 = e.1 ∧ f' 1 4 = e.2 ∧ cK f f'
  | .inr s => x = 1 ∧ tpS f' T N s.2.1 s.2.2 ∧ f' 1 6 = s.1 ∧ f' 1 5 = p ∧ f' 1 3 = f 1 3 ∧ f' 1 4 = f 1 4 ∧ cK f f'
section TP1
variable {D : q_D} {f f' : q_F} {A : q_As} {g h : Int} {T : Int → Int} {N p e : Int}
theorem tpS.pr (hT : tpS f T N p e) : 0 ≤ p ∧ p ≤ N ∧ sk T N p = p ∧ (0 ≤ N ∧ N ≤ 1600) ∧ (-1 ≤ e ∧ e ≤ N) := by
  obtain ⟨hW, h1, h2, h3, h4, h5, h6⟩ := hT
  have := sk_rg (T := T) h3.2
  have h7 := sk_sk (T := T) h3.2
  rw [h4] at this h7
  exact ⟨by omega, by omega, h7, hW.1, h6⟩
theorem tpS.to (hT : tpS f T N p e) (hf : cK f f') (h1 : f' 1 1 = N) {q d : Int} (h2 : 0 ≤ f' 1 2 ∧ f' 1 2 ≤ N) (h3 : sk T N (f' 1 2) = q) (h4 : f' 1 8 = d) (h5 : -1 ≤ d ∧ d ≤ N) : tpS f' T N q d :=
  ⟨hT.1, h1, fun k k0 k1 => by rw [hf _ _ (by decide)]; exact hT.2.2.1 k k0 k1, h2, h3, h4, h5⟩
theorem cK.refl (f : q_F) : cK f f := fun _ _ _ => rfl
theorem cK.up {k x : Int} (h : cK f f') : cK f (q_up f' 1 k x) := fun j i hj => by rw [q_up_at hj]; exact h j i hj
theorem cK.tr {f'' : q_F} (h : cK f f') (h2 : cK f' f'') : cK f f'' := fun j i hj => by rw [h2 j i hj]; exact h j i hj
theorem tpS.pl (hT : tpS f T N p e) : tpS (q_up f 1 2 p) T N p e := by
  obtain ⟨a, b, c, d, _⟩ := hT.pr
  exact hT.to (cK.refl f).up (by rw [q_up_ne (Or.inr (by decide))]; exact hT.2.1) (by rw [q_up_eq]; omega) (by rw [q_up_eq]; exact c) (by rw [q_up_ne (Or.inr (by decide))]; exact hT.2.2.2.2.2.1) hT.2.2.2.2.2.2
theorem ok_skipBlanks (hT : tpS f T N p e) : OkI D m_tp_skipBlanks [vr D 1] (Zg g h) f (fun x f' => x = lk T N p ∧ f' = q_up f 1 2 p) := by
  obtain ⟨⟨hN, hB⟩, h1, h2, h3, h4, h5, h6⟩ := hT
  refine OkI_of (L0 := [vr D 1]) mi_tp_skipBlanks rfl rfl (Nat.le_of_ble_eq_true rfl) (fun C hR => ?_)
  have loop : ∀ (m : Nat) (x : Int), x + m = N → 0 ≤ x → sk T N x = p → V D C m_tp_skipBlanks 0 [vr D 1] [] (Zg g h) (q_up f 1 2 x) := by
    intro m
    induction m with
    | zero =>
      intro x hm h0 hs
      have ep : p = x := by rw [← hs]; exact sk_id (fun h => by omega)
      refine V_aload_0 d_tp_skipBlanks_0 ?_
      refine V_getI d_tp_skipBlanks_1 fl_tp_22 is_tp ?_
      rw [q_up_eq]
      refine V_aload_0 d_tp_skipBlanks_4 ?_
      refine V_getI d_tp_skipBlanks_5 fl_tp_19 is_tp ?_
      rw [q_up_ne (Or.inr (by decide)), h1]
      refine V_icmp_ge 52 d_tp_skipBlanks_8 (by decide) (by omega) (by omega) (fun c8 => ?_) (fun c8 => by omega)
      refine V_aload_0 d_tp_skipBlanks_52 ?_
      refine V_getI d_tp_skipBlanks_53 fl_tp_22 is_tp ?_
      rw [q_up_eq]
      refine V_aload_0 d_tp_skipBlanks_56 ?_
      refine V_getI d_tp_skipBlanks_57 fl_tp_19 is_tp ?_
      rw [q_up_ne (Or.inr (by decide)), h1]
      refine V_icmp_ge 75 d_tp_skipBlanks_60 (by decide) (by omega) (by omega) (fun c60 => ?_) (fun c60 => by omega)
      refine V_iconst (-1) d_tp_skipBlanks_75 ?_
      refine V_ireturn d_tp_skipBlanks_76 (hR _ _ ?_)
      exact ⟨by unfold lk; rw [if_neg (by omega)], by rw [ep]⟩
    | succ m ih =>
      intro x hm h0 hs
      have eb : (q_up f 1 2 x) 2 x = T x := by rw [q_up_at (by decide)]; exact h2 x h0 (by omega)
      have bx := hB x h0 (by omega)
      refine V_aload_0 d_tp_skipBlanks_0 ?_
      refine V_getI d_tp_skipBlanks_1 fl_tp_22 is_tp ?_
      rw [q_up_eq]
      refine V_aload_0 d_tp_skipBlanks_4 ?_
      refine V_getI d_tp_skipBlanks_5 fl_tp_19 is_tp ?_
      rw [q_up_ne (Or.inr (by decide)), h1]
      refine V_icmp_ge 52 d_tp_skipBlanks_8 (by decide) (by omega) (by omega) (fun c8 => by omega) (fun c8 => ?_)
      refine V_aload_0 d_tp_skipBlanks_11 ?_
      refine V_getR d_tp_skipBlanks_12 fl_tp_9 is_tp r_tp_bytes ?_
      refine V_aload_0 d_tp_skipBlanks_15 ?_
      refine V_getI d_tp_skipBlanks_16 fl_tp_22 is_tp ?_
      rw [q_up_eq]
      refine V_iald d_tp_skipBlanks_19 is_tp_bytes (by omega) (by omega) ?_
      rw [eb]
      refine V_bipush 10 d_tp_skipBlanks_20 (by decide) ?_
      refine V_icmp_eq 39 d_tp_skipBlanks_22 (by decide) (by omega) (by omega) (fun c22 => ?_) (fun c22 => ?_)
      · skip
        refine V_aload_0 d_tp_skipBlanks_39 ?_
        refine V_dup d_tp_skipBlanks_40 rfl ?_
        refine V_getI d_tp_skipBlanks_41 fl_tp_22 is_tp ?_
        rw [q_up_eq]
        refine V_iconst 1 d_tp_skipBlanks_44 ?_
        refine V_iadd d_tp_skipBlanks_45 ?_
        refine V_putI d_tp_skipBlanks_46 fl_tp_22 is_tp ?_
        rw [q_up_up]
        refine V_goto 0 d_tp_skipBlanks_49 (by decide) ?_
        exact ih _ (by omega) (by omega) (by rw [← hs]; exact sk_step (by omega) (by unfold isB; simp; omega))
      · skip
        refine V_aload_0 d_tp_skipBlanks_25 ?_
        refine V_getR d_tp_skipBlanks_26 fl_tp_9 is_tp r_tp_bytes ?_
        refine V_aload_0 d_tp_skipBlanks_29 ?_
        refine V_getI d_tp_skipBlanks_30 fl_tp_22 is_tp ?_
        rw [q_up_eq]
        refine V_iald d_tp_skipBlanks_33 is_tp_bytes (by omega) (by omega) ?_
        rw [eb]
        refine V_bipush 32 d_tp_skipBlanks_34 (by decide) ?_
        refine V_icmp_ne 52 d_tp_skipBlanks_36 (by decide) (by omega) (by omega) (fun c36 => ?_) (fun c36 => ?_)
        · skip
          refine V_aload_0 d_tp_skipBlanks_52 ?_
          refine V_getI d_tp_skipBlanks_53 fl_tp_22 is_tp ?_
          rw [q_up_eq]
          refine V_aload_0 d_tp_skipBlanks_56 ?_
          refine V_getI d_tp_skipBlanks_57 fl_tp_19 is_tp ?_
          rw [q_up_ne (Or.inr (by decide)), h1]
          refine V_icmp_ge 75 d_tp_skipBlanks_60 (by decide) (by omega) (by omega) (fun c60 => by omega) (fun c60 => ?_)
          refine V_aload_0 d_tp_skipBlanks_63 ?_
          refine V_getR d_tp_skipBlanks_64 fl_tp_9 is_tp r_tp_bytes ?_
          refine V_aload_0 d_tp_skipBlanks_67 ?_
          refine V_getI d_tp_skipBlanks_68 fl_tp_22 is_tp ?_
          rw [q_up_eq]
          refine V_iald d_tp_skipBlanks_71 is_tp_bytes (by omega) (by omega) ?_
          rw [eb]
          refine V_goto 76 d_tp_skipBlanks_72 (by decide) ?_
          refine V_ireturn d_tp_skipBlanks_76 (hR _ _ ?_)
          have ep : p = x := by rw [← hs]; exact sk_id (fun _ => by unfold isB; simp; omega)
          exact ⟨by unfold lk; rw [ep, if_pos (by omega)], by rw [ep]⟩
        · skip
          refine V_aload_0 d_tp_skipBlanks_39 ?_
          refine V_dup d_tp_skipBlanks_40 rfl ?_
          refine V_getI d_tp_skipBlanks_41 fl_tp_22 is_tp ?_
          rw [q_up_eq]
          refine V_iconst 1 d_tp_skipBlanks_44 ?_
          refine V_iadd d_tp_skipBlanks_45 ?_
          refine V_putI d_tp_skipBlanks_46 fl_tp_22 is_tp ?_
          rw [q_up_up]
          refine V_goto 0 d_tp_skipBlanks_49 (by decide) ?_
          exact ih _ (by omega) (by omega) (by rw [← hs]; exact sk_step (by omega) (by unfold isB; simp; omega))
  have e0 : f = q_up f 1 2 (f 1 2) := (q_up_self f 1 2).symm
  rw [e0]
  have := loop (N - f 1 2).toNat (f 1 2) (by omega) h3.1 h4
  rw [← e0] at this ⊢
  exact this
theorem ok_tfail {k w : Int} (hk : -2147483648 ≤ k ∧ k < 2147483648) : OkI D m_tp_fail [vr D 1, vi k, vi w] (Zg g h) f (fun x f' => x = 0 ∧ f' = q_up (q_up f 1 3 k) 1 4 w) := by
  refine OkB_of (L0 := [vr D 1, vi k, vi w]) mi_tp_fail rfl rfl (Nat.le_of_ble_eq_true rfl) (fun C hR => ?_)
  refine V_aload_0 d_tp_fail_0 ?_
  refine V_iload_1 d_tp_fail_1 ?_
  refine V_putI d_tp_fail_2 fl_tp_28 is_tp ?_
  refine V_aload_0 d_tp_fail_5 ?_
  refine V_iload_2 d_tp_fail_6 ?_
  refine V_putI d_tp_fail_7 fl_tp_15 is_tp ?_
  refine V_iconst 0 d_tp_fail_10 ?_
  refine V_ireturn d_tp_fail_11 (hR _ _ (by decide) ?_)
  exact ⟨rfl, rfl⟩
theorem ok_failHere {w : Int} (hw : f 1 2 = w) : OkI D m_tp_failHere [vr D 1] (Zg g h) f (fun x f' => x = 0 ∧ f' = q_up (q_up f 1 3 1) 1 4 w) := by
  refine OkB_of (L0 := [vr D 1]) mi_tp_failHere rfl rfl (Nat.le_of_ble_eq_true rfl) (fun C hR => ?_)
  refine V_aload_0 d_tp_failHere_0 ?_
  refine V_iconst 1 d_tp_failHere_1 ?_
  refine V_aload_0 d_tp_failHere_2 ?_
  refine V_getI d_tp_failHere_3 fl_tp_22 is_tp ?_
  rw [hw]
  refine V_cvI2 d_tp_failHere_6 ml_tp_31 mv_tp_fail (by decide) (Nat.le_of_ble_eq_true rfl) is_tp (ok_tfail (by decide)) ?_
  rintro x f2 ⟨hx, e2⟩
  rw [hx, e2]; clear hx e2 f2
  refine V_ireturn d_tp_failHere_9 (hR _ _ (by decide) ?_)
  exact ⟨rfl, rfl⟩
theorem ok_tdigit {c : Int} (hc : -2147483648 ≤ c ∧ c < 2147483648) : OkI D m_tp_isDigit [vi c] (Zg g h) f (fun x f' => ((x = 1 ∧ isG c = true) ∨ (x = 0 ∧ ¬ isG c = true)) ∧ f' = f) := by
  refine OkB_of (L0 := [vi c]) mi_tp_isDigit rfl rfl (Nat.le_of_ble_eq_true rfl) (fun C hR => ?_)
  refine V_iload_0 d_tp_isDigit_0 ?_
  refine V_bipush 48 d_tp_isDigit_1 (by decide) ?_
  refine V_icmp_lt 16 d_tp_isDigit_3 (by decide) (by omega) (by omega) (fun c3 => ?_) (fun c3 => ?_)
  · skip
    refine V_iconst 0 d_tp_isDigit_16 ?_
    refine V_ireturn d_tp_isDigit_17 (hR _ _ (by decide) ?_)
    exact ⟨Or.inr ⟨rfl, by unfold isG; simp; omega⟩, rfl⟩
  · skip
    refine V_iload_0 d_tp_isDigit_6 ?_
    refine V_bipush 57 d_tp_isDigit_7 (by decide) ?_
    refine V_icmp_gt 16 d_tp_isDigit_9 (by decide) (by omega) (by omega) (fun c9 => ?_) (fun c9 => ?_)
    · skip
      refine V_iconst 0 d_tp_isDigit_16 ?_
      refine V_ireturn d_tp_isDigit_17 (hR _ _ (by decide) ?_)
      exact ⟨Or.inr ⟨rfl, by unfold isG; simp; omega⟩, rfl⟩
    · skip
      refine V_iconst 1 d_tp_isDigit_12 ?_
      refine V_goto 17 d_tp_isDigit_13 (by decide) ?_
      refine V_ireturn d_tp_isDigit_17 (hR _ _ (by decide) ?_)
      exact ⟨Or.inl ⟨rfl, by unfold isG; simp; omega⟩, rfl⟩
theorem ok_tletter {c : Int} (hc : -2147483648 ≤ c ∧ c < 2147483648) : OkI D m_tp_isLetter [vi c] (Zg g h) f (fun x f' => ((x = 1 ∧ isL c = true) ∨ (x = 0 ∧ ¬ isL c = true)) ∧ f' = f) := by
  refine OkB_of (L0 := [vi c]) mi_tp_isLetter rfl rfl (Nat.le_of_ble_eq_true rfl) (fun C hR => ?_)
  refine V_iload_0 d_tp_isLetter_0 ?_
  refine V_bipush 97 d_tp_isLetter_1 (by decide) ?_
  refine V_icmp_lt 16 d_tp_isLetter_3 (by decide) (by omega) (by omega) (fun c3 => ?_) (fun c3 => ?_)
  · skip
    refine V_iconst 0 d_tp_isLetter_16 ?_
    refine V_ireturn d_tp_isLetter_17 (hR _ _ (by decide) ?_)
    exact ⟨Or.inr ⟨rfl, by unfold isL; simp; omega⟩, rfl⟩
  · skip
    refine V_iload_0 d_tp_isLetter_6 ?_
    refine V_bipush 122 d_tp_isLetter_7 (by decide) ?_
    refine V_icmp_gt 16 d_tp_isLetter_9 (by decide) (by omega) (by omega) (fun c9 => ?_) (fun c9 => ?_)
    · skip
      refine V_iconst 0 d_tp_isLetter_16 ?_
      refine V_ireturn d_tp_isLetter_17 (hR _ _ (by decide) ?_)
      exact ⟨Or.inr ⟨rfl, by unfold isL; simp; omega⟩, rfl⟩
    · skip
      refine V_iconst 1 d_tp_isLetter_12 ?_
      refine V_goto 17 d_tp_isLetter_13 (by decide) ?_
      refine V_ireturn d_tp_isLetter_17 (hR _ _ (by decide) ?_)
      exact ⟨Or.inl ⟨rfl, by unfold isL; simp; omega⟩, rfl⟩
theorem tpS.next (hT : tpS f T N p e) {c : Int} (hc : 0 ≤ c) (h : lk T N p = c) : tpS (q_up f 1 2 (p + 1)) T N (sk T N (p + 1)) e := by
  have hp := hT.pr
  have := lk_of hc h
  exact hT.to (cK.refl f).up (by rw [q_up_ne (Or.inr (by decide))]; exact hT.2.1) (by rw [q_up_eq]; omega) (by rw [q_up_eq]) (by rw [q_up_ne (Or.inr (by decide))]; exact hT.2.2.2.2.2.1) hT.2.2.2.2.2.2
theorem ok_passOver (hT : tpS f T N p e) {c : Int} (hc : 0 ≤ c ∧ c < 2147483648) : OkI D m_tp_passOver [vr D 1, vi c] (Zg g h) f (fun x f' => ((x = 1 ∧ lk T N p = c ∧ f' = q_up f 1 2 (p + 1)) ∨ (x = 0 ∧ ¬ lk T N p = c ∧ f' = q_up f 1 2 p))) := by
  have hp := hT.pr
  have hl := lk_rg hT.1 hp.1
  refine OkB_of (L0 := [vr D 1, vi c]) mi_tp_passOver rfl rfl (Nat.le_of_ble_eq_true rfl) (fun C hR => ?_)
  refine V_aload_0 d_tp_passOver_0 ?_
  refine V_cvI0 d_tp_passOver_1 ml_tp_35 mv_tp_skipBlanks (by decide) (Nat.le_of_ble_eq_true rfl) is_tp (ok_skipBlanks hT) ?_
  rintro _ f2 ⟨rfl, e2⟩
  rw [e2]; clear e2 f2
  refine V_iload_1 d_tp_passOver_4 ?_
  refine V_icmp_eq 10 d_tp_passOver_5 (by decide) (by omega) (by omega) (fun c5 => ?_) (fun c5 => ?_)
  · skip
    refine V_aload_0 d_tp_passOver_10 ?_
    refine V_dup d_tp_passOver_11 rfl ?_
    refine V_getI d_tp_passOver_12 fl_tp_22 is_tp ?_
    rw [q_up_eq]
    refine V_iconst 1 d_tp_passOver_15 ?_
    refine V_iadd d_tp_passOver_16 ?_
    refine V_putI d_tp_passOver_17 fl_tp_22 is_tp ?_
    rw [q_up_up]
    refine V_iconst 1 d_tp_passOver_20 ?_
    refine V_ireturn d_tp_passOver_21 (hR _ _ (by decide) ?_)
    exact Or.inl ⟨rfl, c5, rfl⟩
  · skip
    refine V_iconst 0 d_tp_passOver_8 ?_
    refine V_ireturn d_tp_passOver_9 (hR _ _ (by decide) ?_)
    exact Or.inr ⟨rfl, c5, rfl⟩
theorem ok_takeSign (hT : tpS f T N p e) {c : Int} (hc : 0 ≤ c ∧ c < 2147483648) : OkI D m_tp_takeSign [vr D 1, vi c] (Zg g h) f (fun x f' => cO f f' T N x (l_sign T N c p e)) := by
  have hp := hT.pr
  have hl := lk_rg hT.1 hp.1
  refine OkB_of (L0 := [vr D 1, vi c]) mi_tp_takeSign rfl rfl (Nat.le_of_ble_eq_true rfl) (fun C hR => ?_)
  refine V_aload_0 d_tp_takeSign_0 ?_
  refine V_cvI0 d_tp_takeSign_1 ml_tp_35 mv_tp_skipBlanks (by decide) (Nat.le_of_ble_eq_true rfl) is_tp (ok_skipBlanks hT) ?_
  rintro _ f2 ⟨rfl, e2⟩
  rw [e2]; clear e2 f2
  refine V_iload_1 d_tp_takeSign_4 ?_
  refine V_icmp_eq 18 d_tp_takeSign_5 (by decide) (by omega) (by omega) (fun c5 => ?_) (fun c5 => ?_)
  · skip
    refine V_aload_0 d_tp_takeSign_18 ?_
    refine V_dup d_tp_takeSign_19 rfl ?_
    refine V_getI d_tp_takeSign_20 fl_tp_22 is_tp ?_
    rw [q_up_eq]
    refine V_iconst 1 d_tp_takeSign_23 ?_
    refine V_iadd d_tp_takeSign_24 ?_
    refine V_putI d_tp_takeSign_25 fl_tp_22 is_tp ?_
    rw [q_up_up]
    refine V_iconst 1 d_tp_takeSign_28 ?_
    refine V_ireturn d_tp_takeSign_29 (hR _ _ (by decide) ?_)
    unfold l_sign; rw [if_pos c5]
    exact ⟨rfl, hT.next hc.1 c5, q_up_ne (Or.inr (by decide)), q_up_ne (Or.inr (by decide)), (cK.refl f).up⟩
  · skip
    refine V_aload_0 d_tp_takeSign_8 ?_
    refine V_iconst 1 d_tp_takeSign_9 ?_
    refine V_aload_0 d_tp_takeSign_10 ?_
    refine V_getI d_tp_takeSign_11 fl_tp_22 is_tp ?_
    rw [q_up_eq]
    refine V_cvI2 d_tp_takeSign_14 ml_tp_31 mv_tp_fail (by decide) (Nat.le_of_ble_eq_true rfl) is_tp (ok_tfail (by decide)) ?_
    rintro x f2 ⟨hx, e2⟩
    rw [hx, e2]; clear hx e2 f2
    refine V_ireturn d_tp_takeSign_17 (hR _ _ (by decide) ?_)
    unfold l_sign; rw [if_neg c5]
    exact ⟨rfl, by rw [q_up_ne (Or.inr (by decide)), q_up_eq], q_up_eq _ _ _ _, (cK.refl f).up.up.up⟩
/-- the digits, one by one -/
theorem ok_takeNumber (hT : tpS f T N p e) {lo hi : Int} (hl : -2147483648 ≤ lo ∧ lo < 2147483648) (hh : -2147483648 ≤ hi ∧ hi < 2147483648) : OkI D m_tp_takeNumber [vr D 1, vi lo, vi hi] (Zg g h) f (fun x f' => cV f f' T N p x (l_num T N lo hi p e)) := by
  have hp := hT.pr
  have hlk := lk_rg hT.1 hp.1
  have hT0 := hT.pl
  have hde := de_rg (T := T) hp.2.1
  have hT' := hT
  obtain ⟨⟨hN, hB⟩, h1, h2, h3, h4, h5, h6⟩ := hT'
  refine OkB_of (L0 := [vr D 1, vi lo, vi hi]) mi_tp_takeNumber rfl rfl (Nat.le_of_ble_eq_true rfl) (fun C hR => ?_)
  have loop : ∀ (m : Nat) (k : Nat) (F : q_F), isG (lk T N p) = true → ¬ p = e → p + k + m = de T N p → k ≤ 4 → cK f F → F 1 1 = N → F 1 2 = p + k → F 1 3 = f 1 3 → F 1 4 = f 1 4 → F 1 5 = p → F 1 6 = numN T k p 0 → F 1 8 = e → V D C m_tp_takeNumber 44 [vr D 1, vi lo, vi hi] [] (Zg g h) F := by
    intro m
    induction m with
    | zero =>
      intro k F hg he hm hk4 hf f1 f2 f3 f4 f5 f6 f8
      have hnr := numN_rg (T := T) k p 0 (fun j a b => hde.2.2.1 j a (by omega)) (by omega)
      have p10 : (10 : Int) ^ k ≤ 10000 := by
        have : ∀ k : Nat, k < 5 → (10 : Int) ^ k ≤ 10000 := by decide +kernel
        exact this k (by omega)
      have ek : (de T N p - p).toNat = k := by omega
      have ez : de T N p = p + k := by omega
      have eL : l_num T N lo hi p e = (if lo ≤ numN T k p 0 ∧ numN T k p 0 ≤ hi then .inr (numN T k p 0, sk T N (p + k), p + k) else .inl (2, p)) := by
        unfold l_num; rw [if_pos ⟨hg, he⟩, if_pos (by omega), ek, ez]
      have K : V D C m_tp_takeNumber 130 [vr D 1, vi lo, vi hi] [] (Zg g h) F := by
        refine V_aload_0 d_tp_takeNumber_130 ?_
        refine V_aload_0 d_tp_takeNumber_131 ?_
        refine V_getI d_tp_takeNumber_132 fl_tp_22 is_tp ?_
        rw [f2]
        refine V_putI d_tp_takeNumber_135 fl_tp_25 is_tp ?_
        refine V_aload_0 d_tp_takeNumber_138 ?_
        refine V_getI d_tp_takeNumber_139 fl_tp_72 is_tp ?_
        rw [q_up_ne (Or.inr (by decide)), f6]
        refine V_iload_1 d_tp_takeNumber_142 ?_
        refine V_icmp_lt 154 d_tp_takeNumber_143 (by decide) (by omega) (by omega) (fun c143 => ?_) (fun c143 => ?_)
        · skip
          refine V_aload_0 d_tp_takeNumber_154 ?_
          refine V_iconst 2 d_tp_takeNumber_155 ?_
          refine V_aload_0 d_tp_takeNumber_156 ?_
          refine V_getI d_tp_takeNumber_157 fl_tp_69 is_tp ?_
          rw [q_up_ne (Or.inr (by decide)), f5]
          refine V_cvI2 d_tp_takeNumber_160 ml_tp_31 mv_tp_fail (by decide) (Nat.le_of_ble_eq_true rfl) is_tp (ok_tfail (by decide)) ?_
          rintro x160 f2 ⟨hx160, e2⟩
          rw [e2]; clear e2 f2
          refine V_if_eq 170 d_tp_takeNumber_163 (by decide) (by omega) (fun c163 => ?_) (fun c163 => by omega)
          refine V_iconst 0 d_tp_takeNumber_170 ?_
          refine V_ireturn d_tp_takeNumber_171 (hR _ _ (by decide) ?_)
          rw [eL, if_neg (by omega)]
          exact ⟨rfl, by rw [q_up_ne (Or.inr (by decide)), q_up_eq], q_up_eq _ _ _ _, hf.up.up.up⟩
        · skip
          refine V_aload_0 d_tp_takeNumber_146 ?_
          refine V_getI d_tp_takeNumber_147 fl_tp_72 is_tp ?_
          rw [q_up_ne (Or.inr (by decide)), f6]
          refine V_iload_2 d_tp_takeNumber_150 ?_
          refine V_icmp_le 166 d_tp_takeNumber_151 (by decide) (by omega) (by omega) (fun c151 => ?_) (fun c151 => ?_)
          · skip
            refine V_iconst 1 d_tp_takeNumber_166 ?_
            refine V_goto 171 d_tp_takeNumber_167 (by decide) ?_
            refine V_ireturn d_tp_takeNumber_171 (hR _ _ (by decide) ?_)
            rw [eL, if_pos (by omega)]
            exact ⟨rfl, hT.to hf.up (by rw [q_up_ne (Or.inr (by decide))]; exact f1) (by rw [q_up_ne (Or.inr (by decide)), f2]; omega) (by rw [q_up_ne (Or.inr (by decide)), f2]) (q_up_eq _ _ _ _) (by show -1 ≤ p + (k : Int) ∧ p + (k : Int) ≤ N; omega), by rw [q_up_ne (Or.inr (by decide))]; exact f6, by rw [q_up_ne (Or.inr (by decide))]; exact f5, by rw [q_up_ne (Or.inr (by decide))]; exact f3, by rw [q_up_ne (Or.inr (by decide))]; exact f4, hf.up⟩
          · skip
            refine V_aload_0 d_tp_takeNumber_154 ?_
            refine V_iconst 2 d_tp_takeNumber_155 ?_
            refine V_aload_0 d_tp_takeNumber_156 ?_
            refine V_getI d_tp_takeNumber_157 fl_tp_69 is_tp ?_
            rw [q_up_ne (Or.inr (by decide)), f5]
            refine V_cvI2 d_tp_takeNumber_160 ml_tp_31 mv_tp_fail (by decide) (Nat.le_of_ble_eq_true rfl) is_tp (ok_tfail (by decide)) ?_
            rintro x160 f2 ⟨hx160, e2⟩
            rw [e2]; clear e2 f2
            refine V_if_eq 170 d_tp_takeNumber_163 (by decide) (by omega) (fun c163 => ?_) (fun c163 => by omega)
            refine V_iconst 0 d_tp_takeNumber_170 ?_
            refine V_ireturn d_tp_takeNumber_171 (hR _ _ (by decide) ?_)
            rw [eL, if_neg (by omega)]
            exact ⟨rfl, by rw [q_up_ne (Or.inr (by decide)), q_up_eq], q_up_eq _ _ _ _, hf.up.up.up⟩
      by_cases eN : p + k = N
      · skip
        refine V_aload_0 d_tp_takeNumber_44 ?_
        refine V_getI d_tp_takeNumber_45 fl_tp_22 is_tp ?_
        rw [f2]
        refine V_aload_0 d_tp_takeNumber_48 ?_
        refine V_getI d_tp_takeNumber_49 fl_tp_19 is_tp ?_
        rw [f1]
        refine V_icmp_ge 130 d_tp_takeNumber_52 (by decide) (by omega) (by omega) (fun c52 => ?_) (fun c52 => by omega)
        exact K
      · have eb : F 2 (p + k) = T (p + k) := by rw [hf _ _ (by decide)]; exact h2 _ (by omega) (by omega)
        have bx := hB (p + k) (by omega) (by omega)
        have hno := hde.2.2.2 (by omega)
        rw [ez] at hno
        refine V_aload_0 d_tp_takeNumber_44 ?_
        refine V_getI d_tp_takeNumber_45 fl_tp_22 is_tp ?_
        rw [f2]
        refine V_aload_0 d_tp_takeNumber_48 ?_
        refine V_getI d_tp_takeNumber_49 fl_tp_19 is_tp ?_
        rw [f1]
        refine V_icmp_ge 130 d_tp_takeNumber_52 (by decide) (by omega) (by omega) (fun c52 => by omega) (fun c52 => ?_)
        refine V_aload_0 d_tp_takeNumber_55 ?_
        refine V_getR d_tp_takeNumber_56 fl_tp_9 is_tp r_tp_bytes ?_
        refine V_aload_0 d_tp_takeNumber_59 ?_
        refine V_getI d_tp_takeNumber_60 fl_tp_22 is_tp ?_
        rw [f2]
        refine V_iald d_tp_takeNumber_63 is_tp_bytes (by omega) (by omega) ?_
        rw [eb]
        refine V_csI1 d_tp_takeNumber_64 ml_tp_66 ms_tp_isDigit (by decide) (Nat.le_of_ble_eq_true rfl) (ok_tdigit (by omega)) ?_
        rintro x64 f2 ⟨hx64, e2⟩
        rw [e2]; clear e2 f2
        refine V_if_eq 130 d_tp_takeNumber_67 (by decide) (by rcases hx64 with h | h <;> omega) (fun c67 => ?_) (fun c67 => ?_)
        · skip
          skip
          exact K
        · skip
          have := q_b1 hx64 (by omega)
          rw [hno] at this; cases this
    | succ m ih =>
      intro k F hg he hm hk4 hf f1 f2 f3 f4 f5 f6 f8
      have eb : F 2 (p + k) = T (p + k) := by rw [hf _ _ (by decide)]; exact h2 _ (by omega) (by omega)
      have bx := hB (p + k) (by omega) (by omega)
      have hyes := hde.2.2.1 (p + k) (by omega) (by omega)
      have hnr := numN_rg (T := T) k p 0 (fun j a b => hde.2.2.1 j a (by omega)) (by omega)
      have p10 : (10 : Int) ^ k ≤ 10000 := by
        have : ∀ k : Nat, k < 5 → (10 : Int) ^ k ≤ 10000 := by decide +kernel
        exact this k (by omega)
      refine V_aload_0 d_tp_takeNumber_44 ?_
      refine V_getI d_tp_takeNumber_45 fl_tp_22 is_tp ?_
      rw [f2]
      refine V_aload_0 d_tp_takeNumber_48 ?_
      refine V_getI d_tp_takeNumber_49 fl_tp_19 is_tp ?_
      rw [f1]
      refine V_icmp_ge 130 d_tp_takeNumber_52 (by decide) (by omega) (by omega) (fun c52 => by omega) (fun c52 => ?_)
      refine V_aload_0 d_tp_takeNumber_55 ?_
      refine V_getR d_tp_takeNumber_56 fl_tp_9 is_tp r_tp_bytes ?_
      refine V_aload_0 d_tp_takeNumber_59 ?_
      refine V_getI d_tp_takeNumber_60 fl_tp_22 is_tp ?_
      rw [f2]
      refine V_iald d_tp_takeNumber_63 is_tp_bytes (by omega) (by omega) ?_
      rw [eb]
      refine V_csI1 d_tp_takeNumber_64 ml_tp_66 ms_tp_isDigit (by decide) (Nat.le_of_ble_eq_true rfl) (ok_tdigit (by omega)) ?_
      rintro x64 f2 ⟨hx64, e2⟩
      rw [e2]; clear e2 f2
      refine V_if_eq 130 d_tp_takeNumber_67 (by decide) (by rcases hx64 with h | h <;> omega) (fun c67 => ?_) (fun c67 => ?_)
      · skip
        exact absurd hyes (q_b0 hx64 (by omega))
      · skip
        refine V_aload_0 d_tp_takeNumber_70 ?_
        refine V_getI d_tp_takeNumber_71 fl_tp_22 is_tp ?_
        rw [f2]
        refine V_aload_0 d_tp_takeNumber_74 ?_
        refine V_getI d_tp_takeNumber_75 fl_tp_69 is_tp ?_
        rw [f5]
        refine V_isub d_tp_takeNumber_78 ?_
        refine V_iconst 4 d_tp_takeNumber_79 ?_
        refine V_icmp_ne 93 d_tp_takeNumber_80 (by decide) (by omega) (by omega) (fun c80 => ?_) (fun c80 => ?_)
        · skip
          refine V_aload_0 d_tp_takeNumber_93 ?_
          refine V_bipush 10 d_tp_takeNumber_94 (by decide) ?_
          refine V_aload_0 d_tp_takeNumber_96 ?_
          refine V_getI d_tp_takeNumber_97 fl_tp_72 is_tp ?_
          rw [f6]
          refine V_imul d_tp_takeNumber_100 ?_
          refine V_aload_0 d_tp_takeNumber_101 ?_
          refine V_getR d_tp_takeNumber_102 fl_tp_9 is_tp r_tp_bytes ?_
          refine V_aload_0 d_tp_takeNumber_105 ?_
          refine V_getI d_tp_takeNumber_106 fl_tp_22 is_tp ?_
          rw [f2]
          refine V_iald d_tp_takeNumber_109 is_tp_bytes (by omega) (by omega) ?_
          rw [eb]
          refine V_iadd d_tp_takeNumber_110 ?_
          refine V_bipush 48 d_tp_takeNumber_111 (by decide) ?_
          refine V_isub d_tp_takeNumber_113 ?_
          refine V_putI d_tp_takeNumber_114 fl_tp_72 is_tp ?_
          refine V_aload_0 d_tp_takeNumber_117 ?_
          refine V_dup d_tp_takeNumber_118 rfl ?_
          refine V_getI d_tp_takeNumber_119 fl_tp_22 is_tp ?_
          rw [q_up_ne (Or.inr (by decide)), f2]
          refine V_iconst 1 d_tp_takeNumber_122 ?_
          refine V_iadd d_tp_takeNumber_123 ?_
          refine V_putI d_tp_takeNumber_124 fl_tp_22 is_tp ?_
          refine V_goto 44 d_tp_takeNumber_127 (by decide) ?_
          refine ih (k + 1) _ hg he (by omega) (by omega) hf.up.up (by rw [q_up_ne (Or.inr (by decide)), q_up_ne (Or.inr (by decide))]; exact f1) (by rw [q_up_eq]; push_cast; omega) (by rw [q_up_ne (Or.inr (by decide)), q_up_ne (Or.inr (by decide))]; exact f3) (by rw [q_up_ne (Or.inr (by decide)), q_up_ne (Or.inr (by decide))]; exact f4) (by rw [q_up_ne (Or.inr (by decide)), q_up_ne (Or.inr (by decide))]; exact f5) ?_ (by rw [q_up_ne (Or.inr (by decide)), q_up_ne (Or.inr (by decide))]; exact f8)
          rw [q_up_ne (Or.inr (by decide)), q_up_eq, numN_end]
        · skip
          refine V_aload_0 d_tp_takeNumber_83 ?_
          refine V_iconst 1 d_tp_takeNumber_84 ?_
          refine V_aload_0 d_tp_takeNumber_85 ?_
          refine V_getI d_tp_takeNumber_86 fl_tp_22 is_tp ?_
          rw [f2]
          refine V_cvI2 d_tp_takeNumber_89 ml_tp_31 mv_tp_fail (by decide) (Nat.le_of_ble_eq_true rfl) is_tp (ok_tfail (by decide)) ?_
          rintro x f9 ⟨hx, e9⟩
          rw [hx, e9]; clear hx e9 f9
          refine V_ireturn d_tp_takeNumber_92 (hR _ _ (by decide) ?_)
          unfold l_num; rw [if_pos ⟨hg, he⟩, if_neg (by omega)]
          refine ⟨rfl, by rw [q_up_ne (Or.inr (by decide)), q_up_eq], ?_, hf.up.up⟩
          rw [q_up_eq]; show p + (k : Int) = p + 4; omega
  refine V_aload_0 d_tp_takeNumber_0 ?_
  refine V_cvI0 d_tp_takeNumber_1 ml_tp_35 mv_tp_skipBlanks (by decide) (Nat.le_of_ble_eq_true rfl) is_tp (ok_skipBlanks hT) ?_
  rintro _ f2 ⟨rfl, e2⟩
  rw [e2]; clear e2 f2
  refine V_csI1 d_tp_takeNumber_4 ml_tp_66 ms_tp_isDigit (by decide) (Nat.le_of_ble_eq_true rfl) (ok_tdigit (by omega)) ?_
  rintro x4 f2 ⟨hx4, e2⟩
  rw [e2]; clear e2 f2
  refine V_if_eq 21 d_tp_takeNumber_7 (by decide) (by rcases hx4 with h | h <;> omega) (fun c7 => ?_) (fun c7 => ?_)
  · skip
    refine V_aload_0 d_tp_takeNumber_21 ?_
    refine V_iconst 1 d_tp_takeNumber_22 ?_
    refine V_aload_0 d_tp_takeNumber_23 ?_
    refine V_getI d_tp_takeNumber_24 fl_tp_22 is_tp ?_
    rw [q_up_eq]
    refine V_cvI2 d_tp_takeNumber_27 ml_tp_31 mv_tp_fail (by decide) (Nat.le_of_ble_eq_true rfl) is_tp (ok_tfail (by decide)) ?_
    rintro x f9 ⟨hx, e9⟩
    rw [hx, e9]; clear hx e9 f9
    refine V_ireturn d_tp_takeNumber_30 (hR _ _ (by decide) ?_)
    unfold l_num; rw [if_neg (fun e => q_b0 hx4 c7 e.1)]
    exact ⟨rfl, by rw [q_up_ne (Or.inr (by decide)), q_up_eq], q_up_eq _ _ _ _, (cK.refl f).up.up.up⟩
  · skip
    refine V_aload_0 d_tp_takeNumber_10 ?_
    refine V_getI d_tp_takeNumber_11 fl_tp_22 is_tp ?_
    rw [q_up_eq]
    refine V_aload_0 d_tp_takeNumber_14 ?_
    refine V_getI d_tp_takeNumber_15 fl_tp_25 is_tp ?_
    rw [q_up_ne (Or.inr (by decide)), h5]
    refine V_icmp_ne 31 d_tp_takeNumber_18 (by decide) (by omega) (by omega) (fun c18 => ?_) (fun c18 => ?_)
    · skip
      refine V_aload_0 d_tp_takeNumber_31 ?_
      refine V_aload_0 d_tp_takeNumber_32 ?_
      refine V_getI d_tp_takeNumber_33 fl_tp_22 is_tp ?_
      rw [q_up_eq]
      refine V_putI d_tp_takeNumber_36 fl_tp_69 is_tp ?_
      refine V_aload_0 d_tp_takeNumber_39 ?_
      refine V_iconst 0 d_tp_takeNumber_40 ?_
      refine V_putI d_tp_takeNumber_41 fl_tp_72 is_tp ?_
      refine loop (de T N p - p).toNat 0 _ (q_b1 hx4 c7) c18 (by omega) (by omega) (cK.refl f).up.up.up (by rw [q_up_ne (Or.inr (by decide)), q_up_ne (Or.inr (by decide)), q_up_ne (Or.inr (by decide))]; exact h1) (by rw [q_up_ne (Or.inr (by decide)), q_up_ne (Or.inr (by decide)), q_up_eq]; omega) (by rw [q_up_ne (Or.inr (by decide)), q_up_ne (Or.inr (by decide)), q_up_ne (Or.inr (by decide))]) (by rw [q_up_ne (Or.inr (by decide)), q_up_ne (Or.inr (by decide)), q_up_ne (Or.inr (by decide))]) (by rw [q_up_ne (Or.inr (by decide)), q_up_eq]) (q_up_eq _ _ _ _) (by rw [q_up_ne (Or.inr (by decide)), q_up_ne (Or.inr (by decide)), q_up_ne (Or.inr (by decide))]; exact h5)
    · skip
      refine V_aload_0 d_tp_takeNumber_21 ?_
      refine V_iconst 1 d_tp_takeNumber_22 ?_
      refine V_aload_0 d_tp_takeNumber_23 ?_
      refine V_getI d_tp_takeNumber_24 fl_tp_22 is_tp ?_
      rw [q_up_eq]
      refine V_cvI2 d_tp_takeNumber_27 ml_tp_31 mv_tp_fail (by decide) (Nat.le_of_ble_eq_true rfl) is_tp (ok_tfail (by decide)) ?_
      rintro x f9 ⟨hx, e9⟩
      rw [hx, e9]; clear hx e9 f9
      refine V_ireturn d_tp_takeNumber_30 (hR _ _ (by decide) ?_)
      unfold l_num; rw [if_neg (fun e => e.2 (by omega))]
      exact ⟨rfl, by rw [q_up_ne (Or.inr (by decide)), q_up_eq], q_up_eq _ _ _ _, (cK.refl f).up.up.up⟩
end TP1
