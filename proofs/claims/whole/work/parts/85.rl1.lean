/-! the reference's text: blanks, words, signs, numbers, names -/
/-- the reference reads at s (a fault, or a place and where the last word ended) -/
def mpS (f : q_F) (T : Int → Int) (N : Int) (s : q_R (Int × Int)) : Prop := tW T N ∧ f 219 3 = N ∧ (∀ k, 0 ≤ k → k < N → f 220 k = T k) ∧ match s with
  | .inl e => f 219 5 = e.1 ∧ f 219 6 = e.2 ∧ (1 ≤ e.1 ∧ e.1 ≤ 5)
  | .inr s => f 219 5 = 0 ∧ f 219 6 = -1 ∧ (0 ≤ f 219 2 ∧ f 219 2 ≤ N) ∧ sk T N (f 219 2) = s.1 ∧ f 219 4 = s.2 ∧ (-1 ≤ s.2 ∧ s.2 ≤ N)
def mK (f f' : q_F) : Prop := ∀ j k, ¬ (j = 219 ∧ (k = 2 ∨ k = 4 ∨ k = 5 ∨ k = 6 ∨ k = 34)) → f' j k = f j k
/-- the words in the reference's cells -/
def mW (f : q_F) : Prop := ∀ i : Nat, i < 25 → ∀ k : Nat, k < (wds.getD i []).length → f (221 + i) k = (wds.getD i []).getD k 0
section RL1
variable {D : q_D} {f f' : q_F} {A : q_As} {g h : Int} {T : Int → Int} {N p e : Int}
theorem mK.refl (f : q_F) : mK f f := fun _ _ _ => rfl
theorem mK.up {k x : Int} (h : mK f f') (hk : k = 2 ∨ k = 4 ∨ k = 5 ∨ k = 6 ∨ k = 34) : mK f (q_up f' 219 k x) := fun j i hj => by rw [q_up_ne (by omega)]; exact h j i hj
theorem mK.tr {f'' : q_F} (h : mK f f') (h2 : mK f' f'') : mK f f'' := fun j i hj => by rw [h2 j i hj]; exact h j i hj
theorem mW.mk (h : mW f) (hf : mK f f') : mW f' := fun i hi k hk => by rw [hf _ _ (by omega)]; exact h i hi k hk
theorem mpS.pr (hT : mpS f T N (.inr (p, e))) : 0 ≤ p ∧ p ≤ N ∧ sk T N p = p ∧ (0 ≤ N ∧ N ≤ 1600) ∧ (-1 ≤ e ∧ e ≤ N) := by
  obtain ⟨hW, h1, h2, h3, h3b, h4, h5, h6, h7⟩ := hT
  have := sk_rg (T := T) h4.2
  have h8 := sk_sk (T := T) h4.2
  rw [h5] at this h8
  exact ⟨by omega, by omega, h8, hW.1, h7⟩
theorem mpS.to {s : q_R (Int × Int)} (hT : mpS f T N s) (hf : mK f f') {q d : Int} (h1 : f' 219 5 = 0) (h1b : f' 219 6 = -1) (h2 : 0 ≤ f' 219 2 ∧ f' 219 2 ≤ N) (h3 : sk T N (f' 219 2) = q) (h4 : f' 219 4 = d) (h5 : -1 ≤ d ∧ d ≤ N) : mpS f' T N (.inr (q, d)) :=
  ⟨hT.1, by rw [hf _ _ (by omega)]; exact hT.2.1, fun k k0 k1 => by rw [hf _ _ (by omega)]; exact hT.2.2.1 k k0 k1, h1, h1b, h2, h3, h4, h5⟩
theorem mpS.bad {s : q_R (Int × Int)} (hT : mpS f T N s) (hf : mK f f') {k w : Int} (h1 : f' 219 5 = k) (h2 : f' 219 6 = w) (h3 : 1 ≤ k ∧ k ≤ 5) : mpS f' T N (.inl (k, w)) :=
  ⟨hT.1, by rw [hf _ _ (by omega)]; exact hT.2.1, fun k k0 k1 => by rw [hf _ _ (by omega)]; exact hT.2.2.1 k k0 k1, h1, h2, h3⟩
theorem mpS.pl (hT : mpS f T N (.inr (p, e))) : mpS (q_up f 219 2 p) T N (.inr (p, e)) := by
  obtain ⟨a, b, c, d, _⟩ := hT.pr
  exact hT.to ((mK.refl f).up (by decide)) (by rw [q_up_ne (Or.inr (by decide))]; exact hT.2.2.2.1) (by rw [q_up_ne (Or.inr (by decide))]; exact hT.2.2.2.2.1) (by rw [q_up_eq]; omega) (by rw [q_up_eq]; exact c) (by rw [q_up_ne (Or.inr (by decide))]; exact hT.2.2.2.2.2.2.2.1) hT.2.2.2.2.2.2.2.2
theorem ok_look (hT : mpS f T N (.inr (p, e))) : OkI D m_mo_look [vr D 219] (Zg g h) f (fun x f' => x = lk T N p ∧ f' = q_up f 219 2 p) := by
  obtain ⟨⟨hN, hB⟩, h1, h2, h3a, h3b, h3, h4, h5, h6⟩ := hT
  refine OkI_of (L0 := [vr D 219]) mi_mo_look rfl rfl (Nat.le_of_ble_eq_true rfl) (fun C hR => ?_)
  have loop : ∀ (m : Nat) (x : Int), x + m = N → 0 ≤ x → sk T N x = p → V D C m_mo_look 0 [vr D 219] [] (Zg g h) (q_up f 219 2 x) := by
    intro m
    induction m with
    | zero =>
      intro x hm h0 hs
      have ep : p = x := by rw [← hs]; exact sk_id (fun h => by omega)
      refine V_aload_0 d_mo_look_0 ?_
      refine V_getI d_mo_look_1 fl_mo_191 is_mo ?_
      rw [q_up_eq]
      refine V_aload_0 d_mo_look_4 ?_
      refine V_getI d_mo_look_5 fl_mo_194 is_mo ?_
      rw [q_up_ne (Or.inr (by decide)), h1]
      refine V_icmp_ge 52 d_mo_look_8 (by decide) (by omega) (by omega) (fun c8 => ?_) (fun c8 => by omega)
      refine V_aload_0 d_mo_look_52 ?_
      refine V_getI d_mo_look_53 fl_mo_191 is_mo ?_
      rw [q_up_eq]
      refine V_aload_0 d_mo_look_56 ?_
      refine V_getI d_mo_look_57 fl_mo_194 is_mo ?_
      rw [q_up_ne (Or.inr (by decide)), h1]
      refine V_icmp_ge 75 d_mo_look_60 (by decide) (by omega) (by omega) (fun c60 => ?_) (fun c60 => by omega)
      refine V_iconst (-1) d_mo_look_75 ?_
      refine V_ireturn d_mo_look_76 (hR _ _ ?_)
      exact ⟨by unfold lk; rw [if_neg (by omega)], by rw [ep]⟩
    | succ m ih =>
      intro x hm h0 hs
      have eb : (q_up f 219 2 x) 220 x = T x := by rw [q_up_at (by decide)]; exact h2 x h0 (by omega)
      have bx := hB x h0 (by omega)
      refine V_aload_0 d_mo_look_0 ?_
      refine V_getI d_mo_look_1 fl_mo_191 is_mo ?_
      rw [q_up_eq]
      refine V_aload_0 d_mo_look_4 ?_
      refine V_getI d_mo_look_5 fl_mo_194 is_mo ?_
      rw [q_up_ne (Or.inr (by decide)), h1]
      refine V_icmp_ge 52 d_mo_look_8 (by decide) (by omega) (by omega) (fun c8 => by omega) (fun c8 => ?_)
      refine V_aload_0 d_mo_look_11 ?_
      refine V_getR d_mo_look_12 fl_mo_7 is_mo r_mo_tape ?_
      refine V_aload_0 d_mo_look_15 ?_
      refine V_getI d_mo_look_16 fl_mo_191 is_mo ?_
      rw [q_up_eq]
      refine V_iald d_mo_look_19 is_mo_tape (by omega) (by omega) ?_
      rw [eb]
      refine V_bipush 10 d_mo_look_20 (by decide) ?_
      refine V_icmp_eq 39 d_mo_look_22 (by decide) (by omega) (by omega) (fun c22 => ?_) (fun c22 => ?_)
      · skip
        refine V_aload_0 d_mo_look_39 ?_
        refine V_dup d_mo_look_40 rfl ?_
        refine V_getI d_mo_look_41 fl_mo_191 is_mo ?_
        rw [q_up_eq]
        refine V_iconst 1 d_mo_look_44 ?_
        refine V_iadd d_mo_look_45 ?_
        refine V_putI d_mo_look_46 fl_mo_191 is_mo ?_
        rw [q_up_up]
        refine V_goto 0 d_mo_look_49 (by decide) ?_
        exact ih _ (by omega) (by omega) (by rw [← hs]; exact sk_step (by omega) (by unfold isB; simp; omega))
      · skip
        refine V_aload_0 d_mo_look_25 ?_
        refine V_getR d_mo_look_26 fl_mo_7 is_mo r_mo_tape ?_
        refine V_aload_0 d_mo_look_29 ?_
        refine V_getI d_mo_look_30 fl_mo_191 is_mo ?_
        rw [q_up_eq]
        refine V_iald d_mo_look_33 is_mo_tape (by omega) (by omega) ?_
        rw [eb]
        refine V_bipush 32 d_mo_look_34 (by decide) ?_
        refine V_icmp_ne 52 d_mo_look_36 (by decide) (by omega) (by omega) (fun c36 => ?_) (fun c36 => ?_)
        · skip
          refine V_aload_0 d_mo_look_52 ?_
          refine V_getI d_mo_look_53 fl_mo_191 is_mo ?_
          rw [q_up_eq]
          refine V_aload_0 d_mo_look_56 ?_
          refine V_getI d_mo_look_57 fl_mo_194 is_mo ?_
          rw [q_up_ne (Or.inr (by decide)), h1]
          refine V_icmp_ge 75 d_mo_look_60 (by decide) (by omega) (by omega) (fun c60 => by omega) (fun c60 => ?_)
          refine V_aload_0 d_mo_look_63 ?_
          refine V_getR d_mo_look_64 fl_mo_7 is_mo r_mo_tape ?_
          refine V_aload_0 d_mo_look_67 ?_
          refine V_getI d_mo_look_68 fl_mo_191 is_mo ?_
          rw [q_up_eq]
          refine V_iald d_mo_look_71 is_mo_tape (by omega) (by omega) ?_
          rw [eb]
          refine V_goto 76 d_mo_look_72 (by decide) ?_
          refine V_ireturn d_mo_look_76 (hR _ _ ?_)
          have ep : p = x := by rw [← hs]; exact sk_id (fun _ => by unfold isB; simp; omega)
          exact ⟨by unfold lk; rw [ep, if_pos (by omega)], by rw [ep]⟩
        · skip
          refine V_aload_0 d_mo_look_39 ?_
          refine V_dup d_mo_look_40 rfl ?_
          refine V_getI d_mo_look_41 fl_mo_191 is_mo ?_
          rw [q_up_eq]
          refine V_iconst 1 d_mo_look_44 ?_
          refine V_iadd d_mo_look_45 ?_
          refine V_putI d_mo_look_46 fl_mo_191 is_mo ?_
          rw [q_up_up]
          refine V_goto 0 d_mo_look_49 (by decide) ?_
          exact ih _ (by omega) (by omega) (by rw [← hs]; exact sk_step (by omega) (by unfold isB; simp; omega))
  have e0 : f = q_up f 219 2 (f 219 2) := (q_up_self f 219 2).symm
  have := loop (N - f 219 2).toNat (f 219 2) (by omega) h3.1 h4
  rw [← e0] at this
  exact this
theorem ok_mdigit {c : Int} (hc : -2147483648 ≤ c ∧ c < 2147483648) : OkI D m_mo_isDigit [vi c] (Zg g h) f (fun x f' => ((x = 1 ∧ isG c = true) ∨ (x = 0 ∧ ¬ isG c = true)) ∧ f' = f) := by
  refine OkB_of (L0 := [vi c]) mi_mo_isDigit rfl rfl (Nat.le_of_ble_eq_true rfl) (fun C hR => ?_)
  refine V_iload_0 d_mo_isDigit_0 ?_
  refine V_bipush 48 d_mo_isDigit_1 (by decide) ?_
  refine V_icmp_lt 16 d_mo_isDigit_3 (by decide) (by omega) (by omega) (fun c3 => ?_) (fun c3 => ?_)
  · skip
    refine V_iconst 0 d_mo_isDigit_16 ?_
    refine V_ireturn d_mo_isDigit_17 (hR _ _ (by decide) ?_)
    exact ⟨Or.inr ⟨rfl, by unfold isG; simp; omega⟩, rfl⟩
  · skip
    refine V_iload_0 d_mo_isDigit_6 ?_
    refine V_bipush 57 d_mo_isDigit_7 (by decide) ?_
    refine V_icmp_gt 16 d_mo_isDigit_9 (by decide) (by omega) (by omega) (fun c9 => ?_) (fun c9 => ?_)
    · skip
      refine V_iconst 0 d_mo_isDigit_16 ?_
      refine V_ireturn d_mo_isDigit_17 (hR _ _ (by decide) ?_)
      exact ⟨Or.inr ⟨rfl, by unfold isG; simp; omega⟩, rfl⟩
    · skip
      refine V_iconst 1 d_mo_isDigit_12 ?_
      refine V_goto 17 d_mo_isDigit_13 (by decide) ?_
      refine V_ireturn d_mo_isDigit_17 (hR _ _ (by decide) ?_)
      exact ⟨Or.inl ⟨rfl, by unfold isG; simp; omega⟩, rfl⟩
theorem ok_mletter {c : Int} (hc : -2147483648 ≤ c ∧ c < 2147483648) : OkI D m_mo_isLetter [vi c] (Zg g h) f (fun x f' => ((x = 1 ∧ isL c = true) ∨ (x = 0 ∧ ¬ isL c = true)) ∧ f' = f) := by
  refine OkB_of (L0 := [vi c]) mi_mo_isLetter rfl rfl (Nat.le_of_ble_eq_true rfl) (fun C hR => ?_)
  refine V_iload_0 d_mo_isLetter_0 ?_
  refine V_bipush 97 d_mo_isLetter_1 (by decide) ?_
  refine V_icmp_lt 16 d_mo_isLetter_3 (by decide) (by omega) (by omega) (fun c3 => ?_) (fun c3 => ?_)
  · skip
    refine V_iconst 0 d_mo_isLetter_16 ?_
    refine V_ireturn d_mo_isLetter_17 (hR _ _ (by decide) ?_)
    exact ⟨Or.inr ⟨rfl, by unfold isL; simp; omega⟩, rfl⟩
  · skip
    refine V_iload_0 d_mo_isLetter_6 ?_
    refine V_bipush 122 d_mo_isLetter_7 (by decide) ?_
    refine V_icmp_gt 16 d_mo_isLetter_9 (by decide) (by omega) (by omega) (fun c9 => ?_) (fun c9 => ?_)
    · skip
      refine V_iconst 0 d_mo_isLetter_16 ?_
      refine V_ireturn d_mo_isLetter_17 (hR _ _ (by decide) ?_)
      exact ⟨Or.inr ⟨rfl, by unfold isL; simp; omega⟩, rfl⟩
    · skip
      refine V_iconst 1 d_mo_isLetter_12 ?_
      refine V_goto 17 d_mo_isLetter_13 (by decide) ?_
      refine V_ireturn d_mo_isLetter_17 (hR _ _ (by decide) ?_)
      exact ⟨Or.inl ⟨rfl, by unfold isL; simp; omega⟩, rfl⟩
/-- a fault is kept, the first one -/
def flt (s : q_R (Int × Int)) (k w : Int) : q_R (Int × Int) := match s with
  | .inl e => .inl e
  | .inr _ => .inl (k, w)
theorem ok_mfail {s : q_R (Int × Int)} (hT : mpS f T N s) {k w : Int} (hk : 1 ≤ k ∧ k ≤ 5) : OkV D m_mo_fail [vr D 219, vi k, vi w] (Zg g h) f (fun f' => mpS f' T N (flt s k w) ∧ mK f f') := by
  refine OkV_of (L0 := [vr D 219, vi k, vi w]) mi_mo_fail rfl rfl (Nat.le_of_ble_eq_true rfl) (fun C hR => ?_)
  cases s with
  | inl e =>
    have hb := hT.2.2.2
    refine V_aload_0 d_mo_fail_0 ?_
    refine V_getI d_mo_fail_1 fl_mo_185 is_mo ?_
    rw [hb.1]
    refine V_if_eq 8 d_mo_fail_4 (by decide) (by omega) (fun c4 => by omega) (fun c4 => ?_)
    refine V_return d_mo_fail_7 (hR _ ?_)
    exact ⟨hT, mK.refl f⟩
  | inr s =>
    have hb := hT.2.2.2.1
    refine V_aload_0 d_mo_fail_0 ?_
    refine V_getI d_mo_fail_1 fl_mo_185 is_mo ?_
    rw [hb]
    refine V_if_eq 8 d_mo_fail_4 (by decide) (by omega) (fun c4 => ?_) (fun c4 => by omega)
    refine V_aload_0 d_mo_fail_8 ?_
    refine V_iload_1 d_mo_fail_9 ?_
    refine V_putI d_mo_fail_10 fl_mo_185 is_mo ?_
    refine V_aload_0 d_mo_fail_13 ?_
    refine V_iload_2 d_mo_fail_14 ?_
    refine V_putI d_mo_fail_15 fl_mo_188 is_mo ?_
    refine V_return d_mo_fail_18 (hR _ ?_)
    have hk2 : mK f (q_up (q_up f 219 5 k) 219 6 w) := ((mK.refl f).up (by decide)).up (by decide)
    exact ⟨hT.bad hk2 (by rw [q_up_ne (Or.inr (by decide)), q_up_eq]) (q_up_eq _ _ _ _) hk, hk2⟩
theorem wd_is {i : Nat} (hi : i < 25) (he : ¬ p = e) : wd T N p e = i ↔ sg T (le T N p - p).toNat p = wds.getD i [] := by
  unfold wd; rw [if_neg he]; exact idx_at _ i hi
theorem wds_len : ∀ i : Nat, i < 25 → 2 ≤ (wds.getD i []).length ∧ (wds.getD i []).length ≤ 6 := by decide +kernel
theorem q_ce_w : ∀ i : Nat, i < 25 → q_kn (221 + (i : Int)) = (22, ((wds.getD i []).length : Int)) := by decide +kernel
theorem is_wd {i : Nat} (hi : i < 25) : q_ce 274 (221 + (i : Int)) 22 ((wds.getD i []).length : Int) := ⟨by omega, by show (221 + (i : Int)) < 274; omega, q_ce_w i hi⟩
def hereP (f f' : q_F) (T : Int → Int) (N x : Int) (i : Nat) (s : q_R (Int × Int)) : Prop := match s with
  | .inl _ => x = 0 ∧ f' = f
  | .inr s => ((x = 1 ∧ wd T N s.1 s.2 = i) ∨ (x = 0 ∧ ¬ wd T N s.1 s.2 = i)) ∧ f' = q_up f 219 2 s.1
theorem ok_isHere {s : q_R (Int × Int)} (hT : mpS f T N s) (hw : mW f) {i : Nat} (hi : i < 25) : OkI D m_mo_isHere [vr D 219, vr D (221 + (i : Int))] (Zg g h) f (fun x f' => hereP f f' T N x i s) := by
  have hwl := wds_len i hi
  refine OkB_of (L0 := [vr D 219, vr D (221 + (i : Int)), vu, vu]) mi_mo_isHere rfl rfl (Nat.le_of_ble_eq_true rfl) (fun C hR => ?_)
  cases s with
  | inl e =>
    have hb := hT.2.2.2
    refine V_aload_0 d_mo_isHere_0 ?_
    refine V_getI d_mo_isHere_1 fl_mo_185 is_mo ?_
    rw [hb.1]
    refine V_if_ne 28 d_mo_isHere_4 (by decide) (by omega) (fun c4 => ?_) (fun c4 => by omega)
    refine V_iconst 0 d_mo_isHere_28 ?_
    refine V_ireturn d_mo_isHere_29 (hR _ _ (by decide) ?_)
    exact ⟨rfl, rfl⟩
  | inr s =>
    obtain ⟨p, e⟩ := s
    have hp := hT.pr
    have hlk := lk_rg hT.1 hp.1
    have hle := le_rg (T := T) hp.2.1
    obtain ⟨⟨hN, hB⟩, h1, h2, h3a, h3b, h3, h4, h5, h6⟩ := hT
    have e1 : (q_up f 219 2 p) 219 2 = p := q_up_eq _ _ _ _
    have e3 : (q_up f 219 2 p) 219 3 = N := by rw [q_up_ne (Or.inr (by decide))]; exact h1
    have e4 : (q_up f 219 2 p) 219 4 = e := by rw [q_up_ne (Or.inr (by decide))]; exact h5
    have eb : ∀ k, 0 ≤ k → k < N → (q_up f 219 2 p) 220 k = T k := fun k k0 k1 => by rw [q_up_at (by decide)]; exact h2 k k0 k1
    have ew : ∀ k : Nat, k < (wds.getD i []).length → (q_up f 219 2 p) (221 + i) k = (wds.getD i []).getD k 0 := fun k hk => by rw [q_up_at (by omega)]; exact hw i hi k hk
    have wrg : ∀ i : Nat, i < 25 → ∀ k : Nat, k < 6 → 0 ≤ (wds.getD i []).getD k 0 ∧ (wds.getD i []).getD k 0 < 256 := by decide +kernel
    generalize hF : q_up f 219 2 p = F at *
    have loop2 : ∀ (m j : Nat), ¬ p = e → j + m = (wds.getD i []).length → le T N p - p = (wds.getD i []).length → (∀ k : Nat, k < j → T (p + k) = (wds.getD i []).getD k 0) → V D C m_mo_isHere 76 [vr D 219, vr D (221 + (i : Int)), vi (le T N p), vi j] [] (Zg g h) F := by
      intro m
      induction m with
      | zero =>
        intro j he hm hL hj
        refine V_iload_3 d_mo_isHere_76 ?_
        refine V_aload_1 d_mo_isHere_77 ?_
        refine V_alen d_mo_isHere_78 (is_wd hi) (by decide) rfl (by omega) ?_
        refine V_icmp_ge 107 d_mo_isHere_79 (by decide) (by omega) (by omega) (fun c79 => ?_) (fun c79 => by omega)
        refine V_iconst 1 d_mo_isHere_107 ?_
        refine V_ireturn d_mo_isHere_108 (hR _ _ (by decide) ?_)
        refine ⟨Or.inl ⟨rfl, (wd_is hi he).mpr ?_⟩, hF.symm⟩
        exact (sg_is _ p (by omega)).mpr (fun k hk => hj k (by omega))
      | succ m ih =>
        intro j he hm hL hj
        have ew2 := ew j (by omega)
        have wr := wrg i hi j (by omega)
        have eb2 := eb (p + j) (by omega) (by omega)
        have bx := hB (p + j) (by omega) (by omega)
        refine V_iload_3 d_mo_isHere_76 ?_
        refine V_aload_1 d_mo_isHere_77 ?_
        refine V_alen d_mo_isHere_78 (is_wd hi) (by decide) rfl (by omega) ?_
        refine V_icmp_ge 107 d_mo_isHere_79 (by decide) (by omega) (by omega) (fun c79 => by omega) (fun c79 => ?_)
        refine V_aload_0 d_mo_isHere_82 ?_
        refine V_getR d_mo_isHere_83 fl_mo_7 is_mo r_mo_tape ?_
        refine V_aload_0 d_mo_isHere_86 ?_
        refine V_getI d_mo_isHere_87 fl_mo_191 is_mo ?_
        rw [e1]
        refine V_iload_3 d_mo_isHere_90 ?_
        refine V_iadd d_mo_isHere_91 ?_
        refine V_iald d_mo_isHere_92 is_mo_tape (by omega) (by omega) ?_
        rw [eb2]
        refine V_aload_1 d_mo_isHere_93 ?_
        refine V_iload_3 d_mo_isHere_94 ?_
        refine V_cald d_mo_isHere_95 (is_wd hi) (by omega) (by omega) ?_
        rw [ew2]
        refine V_icmp_eq 101 d_mo_isHere_96 (by decide) (by omega) (by omega) (fun c96 => ?_) (fun c96 => ?_)
        · skip
          refine V_iinc_3 d_mo_isHere_101 rfl ?_
          refine V_goto 76 d_mo_isHere_104 (by decide) ?_
          exact ih (j + 1) he (by omega) hL (fun k hk => by
            by_cases e : k = j
            · rw [e]; exact c96
            · exact hj k (by omega))
        · skip
          refine V_iconst 0 d_mo_isHere_99 ?_
          refine V_ireturn d_mo_isHere_100 (hR _ _ (by decide) ?_)
          refine ⟨Or.inr ⟨rfl, fun e => c96 ?_⟩, hF.symm⟩
          exact (sg_is _ p (by omega)).mp ((wd_is hi he).mp e) j (by omega)
    have loop1 : ∀ (m : Nat) (k : Int), ¬ p = e → p < N → k + m = le T N p → p ≤ k → V D C m_mo_isHere 35 [vr D 219, vr D (221 + (i : Int)), vi k, vu] [] (Zg g h) F := by
      intro m
      induction m with
      | zero =>
        intro k he hpN hm hk
        have K : V D C m_mo_isHere 61 [vr D 219, vr D (221 + (i : Int)), vi k, vu] [] (Zg g h) F := by
          refine V_iload_2 d_mo_isHere_61 ?_
          refine V_aload_0 d_mo_isHere_62 ?_
          refine V_getI d_mo_isHere_63 fl_mo_191 is_mo ?_
          rw [e1]
          refine V_isub d_mo_isHere_66 ?_
          refine V_aload_1 d_mo_isHere_67 ?_
          refine V_alen d_mo_isHere_68 (is_wd hi) (by decide) rfl (by omega) ?_
          refine V_icmp_eq 74 d_mo_isHere_69 (by decide) (by omega) (by omega) (fun c69 => ?_) (fun c69 => ?_)
          · skip
            refine V_iconst 0 d_mo_isHere_74 ?_
            refine V_istore_3 d_mo_isHere_75 rfl ?_
            rw [show k = le T N p by omega]
            exact loop2 (wds.getD i []).length 0 he (by omega) (by omega) (fun k hk => by omega)
          · skip
            refine V_iconst 0 d_mo_isHere_72 ?_
            refine V_ireturn d_mo_isHere_73 (hR _ _ (by decide) ?_)
            refine ⟨Or.inr ⟨rfl, fun e => c69 ?_⟩, hF.symm⟩
            have := congrArg List.length ((wd_is hi he).mp e)
            rw [sg_len] at this
            omega
        by_cases eN : k = N
        · skip
          refine V_iload_2 d_mo_isHere_35 ?_
          refine V_aload_0 d_mo_isHere_36 ?_
          refine V_getI d_mo_isHere_37 fl_mo_194 is_mo ?_
          rw [e3]
          refine V_icmp_ge 61 d_mo_isHere_40 (by decide) (by omega) (by omega) (fun c40 => ?_) (fun c40 => by omega)
          exact K
        · have hno := hle.2.2.2 (by omega)
          rw [show le T N p = k by omega] at hno
          have eb2 := eb k (by omega) (by omega)
          have bx := hB k (by omega) (by omega)
          refine V_iload_2 d_mo_isHere_35 ?_
          refine V_aload_0 d_mo_isHere_36 ?_
          refine V_getI d_mo_isHere_37 fl_mo_194 is_mo ?_
          rw [e3]
          refine V_icmp_ge 61 d_mo_isHere_40 (by decide) (by omega) (by omega) (fun c40 => by omega) (fun c40 => ?_)
          refine V_aload_0 d_mo_isHere_43 ?_
          refine V_getR d_mo_isHere_44 fl_mo_7 is_mo r_mo_tape ?_
          refine V_iload_2 d_mo_isHere_47 ?_
          refine V_iald d_mo_isHere_48 is_mo_tape (by omega) (by omega) ?_
          rw [eb2]
          refine V_csI1 d_mo_isHere_49 ml_mo_201 ms_mo_isLetter (by decide) (Nat.le_of_ble_eq_true rfl) (ok_mletter (by omega)) ?_
          rintro x49 f2 ⟨hx49, e2⟩
          rw [e2]; clear e2 f2
          refine V_if_eq 61 d_mo_isHere_52 (by decide) (by rcases hx49 with h | h <;> omega) (fun c52 => ?_) (fun c52 => ?_)
          · skip
            exact K
          · skip
            have := q_b1 hx49 (by omega)
            rw [hno] at this; cases this
      | succ m ih =>
        intro k he hpN hm hk
        have hyes := hle.2.2.1 k hk (by omega)
        have eb2 := eb k (by omega) (by omega)
        have bx := hB k (by omega) (by omega)
        refine V_iload_2 d_mo_isHere_35 ?_
        refine V_aload_0 d_mo_isHere_36 ?_
        refine V_getI d_mo_isHere_37 fl_mo_194 is_mo ?_
        rw [e3]
        refine V_icmp_ge 61 d_mo_isHere_40 (by decide) (by omega) (by omega) (fun c40 => by omega) (fun c40 => ?_)
        refine V_aload_0 d_mo_isHere_43 ?_
        refine V_getR d_mo_isHere_44 fl_mo_7 is_mo r_mo_tape ?_
        refine V_iload_2 d_mo_isHere_47 ?_
        refine V_iald d_mo_isHere_48 is_mo_tape (by omega) (by omega) ?_
        rw [eb2]
        refine V_csI1 d_mo_isHere_49 ml_mo_201 ms_mo_isLetter (by decide) (Nat.le_of_ble_eq_true rfl) (ok_mletter (by omega)) ?_
        rintro x49 f2 ⟨hx49, e2⟩
        rw [e2]; clear e2 f2
        refine V_if_eq 61 d_mo_isHere_52 (by decide) (by rcases hx49 with h | h <;> omega) (fun c52 => ?_) (fun c52 => ?_)
        · skip
          exact absurd hyes (q_b0 hx49 (by omega))
        · skip
          refine V_iinc_2 d_mo_isHere_55 rfl ?_
          refine V_goto 35 d_mo_isHere_58 (by decide) ?_
          exact ih _ he hpN (by omega) (by omega)
    have hT0 : mpS f T N (.inr (p, e)) := ⟨⟨hN, hB⟩, h1, h2, h3a, h3b, h3, h4, h5, h6⟩
    refine V_aload_0 d_mo_isHere_0 ?_
    refine V_getI d_mo_isHere_1 fl_mo_185 is_mo ?_
    rw [h3a]
    refine V_if_ne 28 d_mo_isHere_4 (by decide) (by omega) (fun c4 => by omega) (fun c4 => ?_)
    refine V_aload_0 d_mo_isHere_7 ?_
    refine V_cvI0 d_mo_isHere_8 ml_mo_197 mv_mo_look (by decide) (Nat.le_of_ble_eq_true rfl) is_mo (ok_look hT0) ?_
    rintro _ f2 ⟨rfl, e2⟩
    rw [e2]; clear e2 f2
    rw [hF]
    refine V_csI1 d_mo_isHere_11 ml_mo_201 ms_mo_isLetter (by decide) (Nat.le_of_ble_eq_true rfl) (ok_mletter (by omega)) ?_
    rintro x11 f2 ⟨hx11, e2⟩
    rw [e2]; clear e2 f2
    refine V_if_eq 28 d_mo_isHere_14 (by decide) (by rcases hx11 with h | h <;> omega) (fun c14 => ?_) (fun c14 => ?_)
    · skip
      refine V_iconst 0 d_mo_isHere_28 ?_
      refine V_ireturn d_mo_isHere_29 (hR _ _ (by decide) ?_)
      refine ⟨Or.inr ⟨rfl, fun e => q_b0 hx11 (by omega) ?_⟩, hF.symm⟩
      exact (wd_lt hp.2.1 (by rw [e]; omega)).2.2
    · skip
      refine V_aload_0 d_mo_isHere_17 ?_
      refine V_getI d_mo_isHere_18 fl_mo_191 is_mo ?_
      rw [e1]
      refine V_aload_0 d_mo_isHere_21 ?_
      refine V_getI d_mo_isHere_22 fl_mo_205 is_mo ?_
      rw [e4]
      refine V_icmp_ne 30 d_mo_isHere_25 (by decide) (by omega) (by omega) (fun c25 => ?_) (fun c25 => ?_)
      · skip
        refine V_aload_0 d_mo_isHere_30 ?_
        refine V_getI d_mo_isHere_31 fl_mo_191 is_mo ?_
        rw [e1]
        refine V_istore_2 d_mo_isHere_34 rfl ?_
        have hlet := q_b1 hx11 (by omega)
        have : p < N := by
          unfold lk at hlet
          split at hlet
          · assumption
          · exact absurd hlet (by decide)
        exact loop1 (le T N p - p).toNat _ c25 this (by omega) (by omega)
      · skip
        refine V_iconst 0 d_mo_isHere_28 ?_
        refine V_ireturn d_mo_isHere_29 (hR _ _ (by decide) ?_)
        refine ⟨Or.inr ⟨rfl, fun e => ?_⟩, hF.symm⟩
        exact (wd_lt hp.2.1 (by rw [e]; omega)).1 (by omega)
/-- takes a word -/
def tkw (T : Int → Int) (N : Int) (i : Nat) (s : q_R (Int × Int)) : q_R (Int × Int) := match s with
  | .inl e => .inl e
  | .inr s => if wd T N s.1 s.2 = i then .inr (sk T N (le T N s.1), le T N s.1) else .inr s
def isw (T : Int → Int) (N : Int) (i : Nat) (s : q_R (Int × Int)) : Bool := match s with
  | .inl _ => false
  | .inr s => decide (wd T N s.1 s.2 = i)
theorem ok_takes {s : q_R (Int × Int)} (hT : mpS f T N s) (hw : mW f) {i : Nat} (hi : i < 25) : OkI D m_mo_takes [vr D 219, vr D (221 + (i : Int))] (Zg g h) f (fun x f' => ((x = 1 ∧ isw T N i s = true) ∨ (x = 0 ∧ ¬ isw T N i s = true)) ∧ mpS f' T N (tkw T N i s) ∧ mK f f' ∧ (¬ isw T N i s = true → ∀ p e, s = .inr (p, e) → f' 219 2 = p)) := by
  have hwl := wds_len i hi
  refine OkB_of (L0 := [vr D 219, vr D (221 + (i : Int))]) mi_mo_takes rfl rfl (Nat.le_of_ble_eq_true rfl) (fun C hR => ?_)
  cases s with
  | inl e =>
    refine V_aload_0 d_mo_takes_0 ?_
    refine V_aload_1 d_mo_takes_1 ?_
    refine V_cvI1 d_mo_takes_2 ml_mo_208 mv_mo_isHere (by decide) (Nat.le_of_ble_eq_true rfl) is_mo (ok_isHere hT hw hi) ?_
    rintro x f2 ⟨hx, e2⟩
    rw [hx, e2]; clear hx e2 f2
    refine V_if_ne 10 d_mo_takes_5 (by decide) (by omega) (fun c5 => by omega) (fun c5 => ?_)
    refine V_iconst 0 d_mo_takes_8 ?_
    refine V_ireturn d_mo_takes_9 (hR _ _ (by decide) ?_)
    exact ⟨Or.inr ⟨rfl, fun h => by cases h⟩, hT, mK.refl f, fun _ p e h => by cases h⟩
  | inr s =>
    obtain ⟨p, e⟩ := s
    have hp := hT.pr
    have hle := le_rg (T := T) hp.2.1
    have hT0 := hT.pl
    refine V_aload_0 d_mo_takes_0 ?_
    refine V_aload_1 d_mo_takes_1 ?_
    refine V_cvI1 d_mo_takes_2 ml_mo_208 mv_mo_isHere (by decide) (Nat.le_of_ble_eq_true rfl) is_mo (ok_isHere hT hw hi) ?_
    rintro x f2 ⟨hx, e2⟩
    rw [e2]; clear e2 f2
    refine V_if_ne 10 d_mo_takes_5 (by decide) (by rcases hx with h | h <;> omega) (fun c5 => ?_) (fun c5 => ?_)
    · skip
      have hy : wd T N p e = i := q_b1 hx c5
      have hlen : le T N p = p + (wds.getD i []).length := by
        have h1 := (wd_lt (T := T) hp.2.1 (e := e) (by rw [hy]; omega))
        have := congrArg List.length ((wd_is hi h1.1).mp hy)
        rw [sg_len] at this
        omega
      refine V_aload_0 d_mo_takes_10 ?_
      refine V_dup d_mo_takes_11 rfl ?_
      refine V_getI d_mo_takes_12 fl_mo_191 is_mo ?_
      rw [q_up_eq]
      refine V_aload_1 d_mo_takes_15 ?_
      refine V_alen d_mo_takes_16 (is_wd hi) (by decide) rfl (by omega) ?_
      refine V_iadd d_mo_takes_17 ?_
      refine V_putI d_mo_takes_18 fl_mo_191 is_mo ?_
      rw [q_up_up, ← hlen]
      refine V_aload_0 d_mo_takes_21 ?_
      refine V_aload_0 d_mo_takes_22 ?_
      refine V_getI d_mo_takes_23 fl_mo_191 is_mo ?_
      rw [q_up_eq]
      refine V_putI d_mo_takes_26 fl_mo_205 is_mo ?_
      refine V_iconst 1 d_mo_takes_29 ?_
      refine V_ireturn d_mo_takes_30 (hR _ _ (by decide) ?_)
      have hk : mK f (q_up (q_up f 219 2 (le T N p)) 219 4 (le T N p)) := ((mK.refl f).up (by decide)).up (by decide)
      refine ⟨Or.inl ⟨rfl, decide_eq_true hy⟩, ?_, hk, fun h => absurd (decide_eq_true hy) h⟩
      show mpS _ T N (if wd T N p e = i then _ else _)
      rw [if_pos hy]
      exact hT.to hk (by rw [q_up_ne (Or.inr (by decide)), q_up_ne (Or.inr (by decide))]; exact hT.2.2.2.1) (by rw [q_up_ne (Or.inr (by decide)), q_up_ne (Or.inr (by decide))]; exact hT.2.2.2.2.1) (by rw [q_up_ne (Or.inr (by decide)), q_up_eq]; omega) (by rw [q_up_ne (Or.inr (by decide)), q_up_eq]) (q_up_eq _ _ _ _) (by show -1 ≤ le T N p ∧ le T N p ≤ N; omega)
    · skip
      refine V_iconst 0 d_mo_takes_8 ?_
      refine V_ireturn d_mo_takes_9 (hR _ _ (by decide) ?_)
      have hy : ¬ wd T N p e = i := q_b0 hx c5
      refine ⟨Or.inr ⟨rfl, by show ¬ decide _ = true; rw [decide_eq_false hy]; decide⟩, ?_, (mK.refl f).up (by decide), fun _ p' e' h => by cases h; exact q_up_eq _ _ _ _⟩
      show mpS _ T N (if wd T N p e = i then _ else _)
      rw [if_neg hy]
      exact hT0
theorem ok_asks {s : q_R (Int × Int)} (hT : mpS f T N s) (hw : mW f) {i : Nat} (hi : i < 25) : OkV D m_mo_asks [vr D 219, vr D (221 + (i : Int))] (Zg g h) f (fun f' => mpS f' T N (rb s (fun s => l_word T N i s.1 s.2)) ∧ mK f f') := by
  refine OkV_of (L0 := [vr D 219, vr D (221 + (i : Int))]) mi_mo_asks rfl rfl (Nat.le_of_ble_eq_true rfl) (fun C hR => ?_)
  cases s with
  | inl e =>
    have hb := hT.2.2.2
    refine V_aload_0 d_mo_asks_0 ?_
    refine V_getI d_mo_asks_1 fl_mo_185 is_mo ?_
    rw [hb.1]
    refine V_if_ne 24 d_mo_asks_4 (by decide) (by omega) (fun c4 => ?_) (fun c4 => by omega)
    refine V_return d_mo_asks_24 (hR _ ?_)
    exact ⟨hT, mK.refl f⟩
  | inr s =>
    obtain ⟨p, e⟩ := s
    have hp := hT.pr
    have hb := hT.2.2.2.1
    refine V_aload_0 d_mo_asks_0 ?_
    refine V_getI d_mo_asks_1 fl_mo_185 is_mo ?_
    rw [hb]
    refine V_if_ne 24 d_mo_asks_4 (by decide) (by omega) (fun c4 => by omega) (fun c4 => ?_)
    refine V_aload_0 d_mo_asks_7 ?_
    refine V_aload_1 d_mo_asks_8 ?_
    refine V_cvI1 d_mo_asks_9 ml_mo_212 mv_mo_takes (by decide) (Nat.le_of_ble_eq_true rfl) is_mo (ok_takes hT hw hi) ?_
    rintro x F ⟨hx, hs, hk, hpl⟩
    refine V_if_ne 24 d_mo_asks_12 (by decide) (by rcases hx with h | h <;> omega) (fun c12 => ?_) (fun c12 => ?_)
    · skip
      refine V_return d_mo_asks_24 (hR _ ?_)
      have hy : isw T N i (.inr (p, e)) = true := q_b1 hx c12
      have hy2 : wd T N p e = i := of_decide_eq_true hy
      refine ⟨?_, hk⟩
      show mpS F T N (l_word T N i p e)
      unfold l_word; rw [if_pos hy2]
      have : tkw T N i (.inr (p, e)) = .inr (sk T N (le T N p), le T N p) := if_pos hy2
      rw [this] at hs
      exact hs
    · skip
      have hy : ¬ isw T N i (.inr (p, e)) = true := q_b0 hx c12
      have hF2 := hpl hy p e rfl
      have hy2 : ¬ wd T N p e = i := fun h => hy (decide_eq_true h)
      refine V_aload_0 d_mo_asks_15 ?_
      refine V_iconst 1 d_mo_asks_16 ?_
      refine V_aload_0 d_mo_asks_17 ?_
      refine V_getI d_mo_asks_18 fl_mo_191 is_mo ?_
      rw [hF2]
      refine V_cvV2 d_mo_asks_21 ml_mo_215 mv_mo_fail (by decide) (Nat.le_of_ble_eq_true rfl) is_mo (ok_mfail hs (by decide)) ?_
      rintro F2 ⟨hs2, hk2⟩
      refine V_return d_mo_asks_24 (hR _ ?_)
      refine ⟨?_, hk.tr hk2⟩
      show mpS F2 T N (l_word T N i p e)
      unfold l_word; rw [if_neg hy2]
      have : tkw T N i (.inr (p, e)) = .inr (p, e) := if_neg hy2
      rw [this] at hs2
      exact hs2
/-- takes a sign -/
def tks (T : Int → Int) (N c : Int) (s : q_R (Int × Int)) : q_R (Int × Int) := match s with
  | .inl e => .inl e
  | .inr s => if lk T N s.1 = c then .inr (sk T N (s.1 + 1), s.2) else .inr s
def iss (T : Int → Int) (N c : Int) (s : q_R (Int × Int)) : Bool := match s with
  | .inl _ => false
  | .inr s => decide (lk T N s.1 = c)
theorem mpS.next (hT : mpS f T N (.inr (p, e))) {c : Int} (hc : 0 ≤ c) (h : lk T N p = c) : mpS (q_up f 219 2 (p + 1)) T N (.inr (sk T N (p + 1), e)) := by
  have hp := hT.pr
  have := lk_of hc h
  exact hT.to ((mK.refl f).up (by decide)) (by rw [q_up_ne (Or.inr (by decide))]; exact hT.2.2.2.1) (by rw [q_up_ne (Or.inr (by decide))]; exact hT.2.2.2.2.1) (by rw [q_up_eq]; omega) (by rw [q_up_eq]) (by rw [q_up_ne (Or.inr (by decide))]; exact hT.2.2.2.2.2.2.2.1) hT.2.2.2.2.2.2.2.2
theorem ok_takesSign {s : q_R (Int × Int)} (hT : mpS f T N s) {c : Int} (hc : 0 ≤ c ∧ c < 2147483648) : OkI D m_mo_takesSign [vr D 219, vi c] (Zg g h) f (fun x f' => ((x = 1 ∧ iss T N c s = true) ∨ (x = 0 ∧ ¬ iss T N c s = true)) ∧ mpS f' T N (tks T N c s) ∧ mK f f' ∧ (∀ p e, s = .inr (p, e) → f' 219 2 = if lk T N p = c then p + 1 else p)) := by
  refine OkB_of (L0 := [vr D 219, vi c]) mi_mo_takesSign rfl rfl (Nat.le_of_ble_eq_true rfl) (fun C hR => ?_)
  cases s with
  | inl e =>
    have hb := hT.2.2.2
    refine V_aload_0 d_mo_takesSign_0 ?_
    refine V_getI d_mo_takesSign_1 fl_mo_185 is_mo ?_
    rw [hb.1]
    refine V_if_ne 15 d_mo_takesSign_4 (by decide) (by omega) (fun c4 => ?_) (fun c4 => by omega)
    refine V_iconst 0 d_mo_takesSign_15 ?_
    refine V_ireturn d_mo_takesSign_16 (hR _ _ (by decide) ?_)
    exact ⟨Or.inr ⟨rfl, fun h => by cases h⟩, hT, mK.refl f, fun p e h => by cases h⟩
  | inr s =>
    obtain ⟨p, e⟩ := s
    have hp := hT.pr
    have hlk := lk_rg hT.1 hp.1
    have hb := hT.2.2.2.1
    refine V_aload_0 d_mo_takesSign_0 ?_
    refine V_getI d_mo_takesSign_1 fl_mo_185 is_mo ?_
    rw [hb]
    refine V_if_ne 15 d_mo_takesSign_4 (by decide) (by omega) (fun c4 => by omega) (fun c4 => ?_)
    refine V_aload_0 d_mo_takesSign_7 ?_
    refine V_cvI0 d_mo_takesSign_8 ml_mo_197 mv_mo_look (by decide) (Nat.le_of_ble_eq_true rfl) is_mo (ok_look hT) ?_
    rintro _ f2 ⟨rfl, e2⟩
    rw [e2]; clear e2 f2
    refine V_iload_1 d_mo_takesSign_11 ?_
    refine V_icmp_eq 17 d_mo_takesSign_12 (by decide) (by omega) (by omega) (fun c12 => ?_) (fun c12 => ?_)
    · skip
      refine V_aload_0 d_mo_takesSign_17 ?_
      refine V_dup d_mo_takesSign_18 rfl ?_
      refine V_getI d_mo_takesSign_19 fl_mo_191 is_mo ?_
      rw [q_up_eq]
      refine V_iconst 1 d_mo_takesSign_22 ?_
      refine V_iadd d_mo_takesSign_23 ?_
      refine V_putI d_mo_takesSign_24 fl_mo_191 is_mo ?_
      rw [q_up_up]
      refine V_iconst 1 d_mo_takesSign_27 ?_
      refine V_ireturn d_mo_takesSign_28 (hR _ _ (by decide) ?_)
      refine ⟨Or.inl ⟨rfl, decide_eq_true c12⟩, ?_, (mK.refl f).up (by decide), fun p' e' h => by cases h; rw [if_pos c12]; exact q_up_eq _ _ _ _⟩
      show mpS _ T N (if lk T N p = c then _ else _)
      rw [if_pos c12]
      exact hT.next hc.1 c12
    · skip
      refine V_iconst 0 d_mo_takesSign_15 ?_
      refine V_ireturn d_mo_takesSign_16 (hR _ _ (by decide) ?_)
      refine ⟨Or.inr ⟨rfl, by show ¬ decide _ = true; rw [decide_eq_false c12]; decide⟩, ?_, (mK.refl f).up (by decide), fun p' e' h => by cases h; rw [if_neg c12]; exact q_up_eq _ _ _ _⟩
      show mpS _ T N (if lk T N p = c then _ else _)
      rw [if_neg c12]
      exact hT.pl
theorem ok_asksSign {s : q_R (Int × Int)} (hT : mpS f T N s) {c : Int} (hc : 0 ≤ c ∧ c < 2147483648) : OkV D m_mo_asksSign [vr D 219, vi c] (Zg g h) f (fun f' => mpS f' T N (rb s (fun s => l_sign T N c s.1 s.2)) ∧ mK f f') := by
  refine OkV_of (L0 := [vr D 219, vi c]) mi_mo_asksSign rfl rfl (Nat.le_of_ble_eq_true rfl) (fun C hR => ?_)
  cases s with
  | inl e =>
    have hb := hT.2.2.2
    refine V_aload_0 d_mo_asksSign_0 ?_
    refine V_getI d_mo_asksSign_1 fl_mo_185 is_mo ?_
    rw [hb.1]
    refine V_if_ne 24 d_mo_asksSign_4 (by decide) (by omega) (fun c4 => ?_) (fun c4 => by omega)
    refine V_return d_mo_asksSign_24 (hR _ ?_)
    exact ⟨hT, mK.refl f⟩
  | inr s =>
    obtain ⟨p, e⟩ := s
    have hp := hT.pr
    have hb := hT.2.2.2.1
    refine V_aload_0 d_mo_asksSign_0 ?_
    refine V_getI d_mo_asksSign_1 fl_mo_185 is_mo ?_
    rw [hb]
    refine V_if_ne 24 d_mo_asksSign_4 (by decide) (by omega) (fun c4 => by omega) (fun c4 => ?_)
    refine V_aload_0 d_mo_asksSign_7 ?_
    refine V_iload_1 d_mo_asksSign_8 ?_
    refine V_cvI1 d_mo_asksSign_9 ml_mo_219 mv_mo_takesSign (by decide) (Nat.le_of_ble_eq_true rfl) is_mo (ok_takesSign hT hc) ?_
    rintro x F ⟨hx, hs, hk, hpl⟩
    have hpl := hpl p e rfl
    refine V_if_ne 24 d_mo_asksSign_12 (by decide) (by rcases hx with h | h <;> omega) (fun c12 => ?_) (fun c12 => ?_)
    · skip
      have hy2 : lk T N p = c := of_decide_eq_true (q_b1 hx c12)
      refine V_return d_mo_asksSign_24 (hR _ ?_)
      refine ⟨?_, hk⟩
      show mpS F T N (l_sign T N c p e)
      unfold l_sign; rw [if_pos hy2]
      have : tks T N c (.inr (p, e)) = .inr (sk T N (p + 1), e) := if_pos hy2
      rw [this] at hs
      exact hs
    · skip
      have hy2 : ¬ lk T N p = c := fun h => q_b0 hx c12 (decide_eq_true h)
      rw [if_neg hy2] at hpl
      refine V_aload_0 d_mo_asksSign_15 ?_
      refine V_iconst 1 d_mo_asksSign_16 ?_
      refine V_aload_0 d_mo_asksSign_17 ?_
      refine V_getI d_mo_asksSign_18 fl_mo_191 is_mo ?_
      rw [hpl]
      refine V_cvV2 d_mo_asksSign_21 ml_mo_215 mv_mo_fail (by decide) (Nat.le_of_ble_eq_true rfl) is_mo (ok_mfail hs (by decide)) ?_
      rintro F2 ⟨hs2, hk2⟩
      refine V_return d_mo_asksSign_24 (hR _ ?_)
      refine ⟨?_, hk.tr hk2⟩
      show mpS F2 T N (l_sign T N c p e)
      unfold l_sign; rw [if_neg hy2]
      have : tks T N c (.inr (p, e)) = .inr (p, e) := if_neg hy2
      rw [this] at hs2
      exact hs2
end RL1
