/-! the class's tape: names -/
def cN (f f' : q_F) (T : Int → Int) (N p x : Int) (r : q_R (List Int × Int × Int)) : Prop := match r with
  | .inl e => x = 0 ∧ f' 1 3 = e.1 ∧ f' 1 4 = e.2 ∧ cK f f'
  | .inr s => x = 1 ∧ tpS f' T N s.2.1 s.2.2 ∧ f' 1 6 = pk32 s.1 ∧ f' 1 5 = p ∧ f' 1 3 = f 1 3 ∧ f' 1 4 = f 1 4 ∧ cK f f'
section TP3
variable {D : q_D} {f f' : q_F} {A : q_As} {g h : Int} {T : Int → Int} {N p e : Int}
theorem q_orM {a b : Nat} (ha : a < 2147483648) (hb : b < 2147483648) : q_or a b = ((a ||| b : Nat) : Int) := by
  unfold q_or
  rw [q_nat ha, q_nat hb]
  show (BitVec.ofNat 32 a ||| BitVec.ofNat 32 b).toInt = _
  have h1 : (BitVec.ofNat 32 a ||| BitVec.ofNat 32 b).toNat = a ||| b := by
    rw [BitVec.toNat_or, BitVec.toNat_ofNat, BitVec.toNat_ofNat, Nat.mod_eq_of_lt (by omega), Nat.mod_eq_of_lt (by omega)]
  have h2 : a ||| b < 2 ^ 31 := Nat.or_lt_two_pow (by omega) (by omega)
  rw [BitVec.toInt_eq_toNat_of_lt (by rw [h1]; omega), h1]
theorem q_shl5 : ∀ d : Nat, d < 32 → ∀ k : Nat, k < 6 → q_shl d (5 * k) = d * 32 ^ k := by decide +kernel
theorem q_pack {v d : Int} {k : Nat} (hk : k < 6) (hv : 0 ≤ v ∧ v < 32 ^ k) (hd : 0 ≤ d ∧ d < 32) : q_or v (q_shl d (5 * k)) = v + d * 32 ^ k := by
  obtain ⟨a, rfl⟩ := Int.eq_ofNat_of_zero_le hv.1
  obtain ⟨b, rfl⟩ := Int.eq_ofNat_of_zero_le hd.1
  rw [q_shl5 b (by omega) k hk]
  have hp := pow32 k (by omega)
  have h32 : ((32 ^ k : Nat) : Int) = 32 ^ k := by push_cast; rfl
  have hb : (b : Int) * 32 ^ k = ((b * 32 ^ k : Nat) : Int) := by push_cast; rfl
  have h3 : (b : Int) * 32 ^ k ≤ 31 * 32 ^ k := Int.mul_le_mul_of_nonneg_right (by omega) (by omega)
  have h4 : ∀ k : Nat, k < 6 → (31 : Int) * 32 ^ k < 2147483648 := by decide +kernel
  have h5 := h4 k hk
  rw [hb, q_orM (by omega) (by omega)]
  have e1 : (32 : Nat) ^ k = 2 ^ (5 * k) := by rw [Nat.pow_mul]
  have e2 : a ||| b * 32 ^ k = a + b * 32 ^ k := by
    rw [e1, Nat.mul_comm b, Nat.or_comm, ← Nat.two_pow_add_eq_or_of_lt (by rw [← e1]; omega) b, Nat.add_comm]
  rw [e2]; push_cast; rfl
theorem ok_takeName (hT : tpS f T N p e) : OkI D m_tp_takeName [vr D 1] (Zg g h) f (fun x f' => cN f f' T N p x (l_name T N p e)) := by
  have hp := hT.pr
  have hwr := wd_rg (T := T) (N := N) p e
  have hle := le_rg (T := T) hp.2.1
  have hT' := hT
  obtain ⟨⟨hN, hB⟩, h1, h2, h3, h4, h5, h6⟩ := hT'
  have ez : p ≤ wE T N p e ∧ wE T N p e ≤ N := by unfold wE; split <;> omega
  refine OkB_of (L0 := [vr D 1, vu]) mi_tp_takeName rfl rfl (Nat.le_of_ble_eq_true rfl) (fun C hR => ?_)
  have loop : ∀ (m k : Nat) (F : q_F) (u : Value), ¬ p = e → p < N → isL (lk T N p) = true → wd T N p e = -1 → p + k + m = le T N p → k ≤ 6 → cK f F → F 1 1 = N → F 1 2 = p + k → F 1 3 = f 1 3 → F 1 4 = f 1 4 → F 1 5 = p → F 1 6 = namN T k p → F 1 7 = le T N p → F 1 8 = e → V D C m_tp_takeName 37 [vr D 1, u] [] (Zg g h) F := by
    intro m
    induction m with
    | zero =>
      intro k F u he hpN hlet hwd hm hk6 hf f1 f2 f3 f4 f5 f6 f7 f8
      have ek : (le T N p - p).toNat = k := by omega
      have ez : le T N p = p + k := by omega
      refine V_aload_0 d_tp_takeName_37 ?_
      refine V_getI d_tp_takeName_38 fl_tp_22 is_tp ?_
      rw [f2]
      refine V_aload_0 d_tp_takeName_41 ?_
      refine V_getI d_tp_takeName_42 fl_tp_39 is_tp ?_
      rw [f7]
      refine V_icmp_ge 109 d_tp_takeName_45 (by decide) (by omega) (by omega) (fun c45 => ?_) (fun c45 => by omega)
      refine V_aload_0 d_tp_takeName_109 ?_
      refine V_aload_0 d_tp_takeName_110 ?_
      refine V_getI d_tp_takeName_111 fl_tp_22 is_tp ?_
      rw [f2]
      refine V_putI d_tp_takeName_114 fl_tp_25 is_tp ?_
      refine V_iconst 1 d_tp_takeName_117 ?_
      refine V_ireturn d_tp_takeName_118 (hR _ _ (by decide) ?_)
      unfold l_name; rw [if_pos ⟨hlet, he, hwd⟩, if_pos (by omega), ek, ez]
      exact ⟨rfl, hT.to hf.up (by rw [q_up_ne (Or.inr (by decide))]; exact f1) (by rw [q_up_ne (Or.inr (by decide)), f2]; omega) (by rw [q_up_ne (Or.inr (by decide)), f2]) (q_up_eq _ _ _ _) (by show -1 ≤ p + (k : Int) ∧ p + (k : Int) ≤ N; omega), by rw [q_up_ne (Or.inr (by decide)), pk32_sg]; exact f6, by rw [q_up_ne (Or.inr (by decide))]; exact f5, by rw [q_up_ne (Or.inr (by decide))]; exact f3, by rw [q_up_ne (Or.inr (by decide))]; exact f4, hf.up⟩
    | succ m ih =>
      intro k F u he hpN hlet hwd hm hk6 hf f1 f2 f3 f4 f5 f6 f7 f8
      have eb : F 2 (p + k) = T (p + k) := by rw [hf _ _ (by decide)]; exact h2 _ (by omega) (by omega)
      have hyes := hle.2.2.1 (p + k) (by omega) (by omega)
      unfold isL at hyes
      rw [decide_eq_true_iff] at hyes
      have hnr := namN_rg (T := T) (p := p) k (fun j a b => hle.2.2.1 j a (by omega))
      refine V_aload_0 d_tp_takeName_37 ?_
      refine V_getI d_tp_takeName_38 fl_tp_22 is_tp ?_
      rw [f2]
      refine V_aload_0 d_tp_takeName_41 ?_
      refine V_getI d_tp_takeName_42 fl_tp_39 is_tp ?_
      rw [f7]
      refine V_icmp_ge 109 d_tp_takeName_45 (by decide) (by omega) (by omega) (fun c45 => by omega) (fun c45 => ?_)
      refine V_aload_0 d_tp_takeName_48 ?_
      refine V_getI d_tp_takeName_49 fl_tp_22 is_tp ?_
      rw [f2]
      refine V_aload_0 d_tp_takeName_52 ?_
      refine V_getI d_tp_takeName_53 fl_tp_69 is_tp ?_
      rw [f5]
      refine V_isub d_tp_takeName_56 ?_
      refine V_istore_1 d_tp_takeName_57 rfl ?_
      refine V_iload_1 d_tp_takeName_58 ?_
      refine V_bipush 6 d_tp_takeName_59 (by decide) ?_
      refine V_icmp_ne 69 d_tp_takeName_61 (by decide) (by omega) (by omega) (fun c61 => ?_) (fun c61 => ?_)
      · skip
        refine V_aload_0 d_tp_takeName_69 ?_
        refine V_dup d_tp_takeName_70 rfl ?_
        refine V_getI d_tp_takeName_71 fl_tp_72 is_tp ?_
        rw [f6]
        refine V_aload_0 d_tp_takeName_74 ?_
        refine V_getR d_tp_takeName_75 fl_tp_9 is_tp r_tp_bytes ?_
        refine V_aload_0 d_tp_takeName_78 ?_
        refine V_getI d_tp_takeName_79 fl_tp_22 is_tp ?_
        rw [f2]
        refine V_iald d_tp_takeName_82 is_tp_bytes (by omega) (by omega) ?_
        rw [eb]
        refine V_bipush 97 d_tp_takeName_83 (by decide) ?_
        refine V_isub d_tp_takeName_85 ?_
        refine V_iconst 1 d_tp_takeName_86 ?_
        refine V_iadd d_tp_takeName_87 ?_
        refine V_iconst 5 d_tp_takeName_88 ?_
        refine V_iload_1 d_tp_takeName_89 ?_
        refine V_imul d_tp_takeName_90 ?_
        refine V_ishl d_tp_takeName_91 ?_
        refine V_ior d_tp_takeName_92 ?_
        rw [show p + (k : Int) - p = k by omega, q_pack (by omega) hnr (by omega)]
        refine V_putI d_tp_takeName_93 fl_tp_72 is_tp ?_
        refine V_aload_0 d_tp_takeName_96 ?_
        refine V_dup d_tp_takeName_97 rfl ?_
        refine V_getI d_tp_takeName_98 fl_tp_22 is_tp ?_
        rw [q_up_ne (Or.inr (by decide)), f2]
        refine V_iconst 1 d_tp_takeName_101 ?_
        refine V_iadd d_tp_takeName_102 ?_
        refine V_putI d_tp_takeName_103 fl_tp_22 is_tp ?_
        refine V_goto 37 d_tp_takeName_106 (by decide) ?_
        refine ih (k + 1) _ _ he hpN hlet hwd (by omega) (by omega) hf.up.up (by rw [q_up_ne (Or.inr (by decide)), q_up_ne (Or.inr (by decide))]; exact f1) (by rw [q_up_eq]; push_cast; omega) (by rw [q_up_ne (Or.inr (by decide)), q_up_ne (Or.inr (by decide))]; exact f3) (by rw [q_up_ne (Or.inr (by decide)), q_up_ne (Or.inr (by decide))]; exact f4) (by rw [q_up_ne (Or.inr (by decide)), q_up_ne (Or.inr (by decide))]; exact f5) ?_ (by rw [q_up_ne (Or.inr (by decide)), q_up_ne (Or.inr (by decide))]; exact f7) (by rw [q_up_ne (Or.inr (by decide)), q_up_ne (Or.inr (by decide))]; exact f8)
        rw [q_up_ne (Or.inr (by decide)), q_up_eq, namN, show T (p + (k : Int)) - 97 + 1 = T (p + k) - 96 by omega]
      · skip
        refine V_aload_0 d_tp_takeName_64 ?_
        refine V_cvI0 d_tp_takeName_65 ml_tp_59 mv_tp_failHere (by decide) (Nat.le_of_ble_eq_true rfl) is_tp (ok_failHere f2) ?_
        rintro x f9 ⟨hx, e9⟩
        rw [hx, e9]; clear hx e9 f9
        refine V_ireturn d_tp_takeName_68 (hR _ _ (by decide) ?_)
        unfold l_name; rw [if_pos ⟨hlet, he, hwd⟩, if_neg (by omega)]
        refine ⟨rfl, by rw [q_up_ne (Or.inr (by decide)), q_up_eq], ?_, hf.up.up⟩
        rw [q_up_eq]; show p + (k : Int) = p + 6; omega
  refine V_aload_0 d_tp_takeName_0 ?_
  refine V_cvI0 d_tp_takeName_1 ml_tp_56 mv_tp_wordHere (by decide) (Nat.le_of_ble_eq_true rfl) is_tp (ok_wordHere hT) ?_
  rintro _ f2 ⟨rfl, e2⟩
  rw [e2]; clear e2 f2
  refine V_iconst (-1) d_tp_takeName_4 ?_
  refine V_icmp_ne 19 d_tp_takeName_5 (by decide) (by omega) (by omega) (fun c5 => ?_) (fun c5 => ?_)
  · skip
    refine V_aload_0 d_tp_takeName_19 ?_
    refine V_cvI0 d_tp_takeName_20 ml_tp_59 mv_tp_failHere (by decide) (Nat.le_of_ble_eq_true rfl) is_tp (ok_failHere (w := p) (by rw [q_up_ne (Or.inr (by decide)), q_up_eq])) ?_
    rintro x f9 ⟨hx, e9⟩
    rw [hx, e9]; clear hx e9 f9
    refine V_ireturn d_tp_takeName_23 (hR _ _ (by decide) ?_)
    unfold l_name; rw [if_neg (fun e => c5 e.2.2)]
    exact ⟨rfl, by rw [q_up_ne (Or.inr (by decide)), q_up_eq], q_up_eq _ _ _ _, (cK.refl f).up.up.up.up⟩
  · skip
    refine V_aload_0 d_tp_takeName_8 ?_
    refine V_getI d_tp_takeName_9 fl_tp_39 is_tp ?_
    rw [q_up_eq]
    refine V_aload_0 d_tp_takeName_12 ?_
    refine V_getI d_tp_takeName_13 fl_tp_22 is_tp ?_
    rw [q_up_ne (Or.inr (by decide)), q_up_eq]
    refine V_icmp_ne 24 d_tp_takeName_16 (by decide) (by omega) (by omega) (fun c16 => ?_) (fun c16 => ?_)
    · skip
      refine V_aload_0 d_tp_takeName_24 ?_
      refine V_aload_0 d_tp_takeName_25 ?_
      refine V_getI d_tp_takeName_26 fl_tp_22 is_tp ?_
      rw [q_up_ne (Or.inr (by decide)), q_up_eq]
      refine V_putI d_tp_takeName_29 fl_tp_69 is_tp ?_
      refine V_aload_0 d_tp_takeName_32 ?_
      refine V_iconst 0 d_tp_takeName_33 ?_
      refine V_putI d_tp_takeName_34 fl_tp_72 is_tp ?_
      have he : ¬ p = e := fun he => c16 (by unfold wE; rw [if_pos he])
      have e2 : wE T N p e = le T N p := by unfold wE; rw [if_neg he]
      rw [e2] at c16 ⊢
      have hpN : p < N := by omega
      have hlet : isL (lk T N p) = true := by unfold lk; rw [if_pos hpN]; exact hle.2.2.1 p (by omega) (by omega)
      refine loop (le T N p - p).toNat 0 _ _ he hpN hlet c5 (by omega) (by omega) (cK.refl f).up.up.up.up ?_ ?_ ?_ ?_ ?_ (q_up_eq _ _ _ _) ?_ ?_
      · rw [q_up_ne (Or.inr (by decide)), q_up_ne (Or.inr (by decide)), q_up_ne (Or.inr (by decide)), q_up_ne (Or.inr (by decide))]; exact h1
      · rw [q_up_ne (Or.inr (by decide)), q_up_ne (Or.inr (by decide)), q_up_ne (Or.inr (by decide)), q_up_eq]; omega
      · rw [q_up_ne (Or.inr (by decide)), q_up_ne (Or.inr (by decide)), q_up_ne (Or.inr (by decide)), q_up_ne (Or.inr (by decide))]
      · rw [q_up_ne (Or.inr (by decide)), q_up_ne (Or.inr (by decide)), q_up_ne (Or.inr (by decide)), q_up_ne (Or.inr (by decide))]
      · rw [q_up_ne (Or.inr (by decide)), q_up_eq]
      · rw [q_up_ne (Or.inr (by decide)), q_up_ne (Or.inr (by decide)), q_up_eq]
      · rw [q_up_ne (Or.inr (by decide)), q_up_ne (Or.inr (by decide)), q_up_ne (Or.inr (by decide)), q_up_ne (Or.inr (by decide))]; exact h5
    · skip
      refine V_aload_0 d_tp_takeName_19 ?_
      refine V_cvI0 d_tp_takeName_20 ml_tp_59 mv_tp_failHere (by decide) (Nat.le_of_ble_eq_true rfl) is_tp (ok_failHere (w := p) (by rw [q_up_ne (Or.inr (by decide)), q_up_eq])) ?_
      rintro x f9 ⟨hx, e9⟩
      rw [hx, e9]; clear hx e9 f9
      refine V_ireturn d_tp_takeName_23 (hR _ _ (by decide) ?_)
      unfold l_name
      rw [if_neg (fun e => ?_)]
      · exact ⟨rfl, by rw [q_up_ne (Or.inr (by decide)), q_up_eq], q_up_eq _ _ _ _, (cK.refl f).up.up.up.up⟩
      · obtain ⟨e1, e2, e3⟩ := e
        have e4 : wE T N p e = le T N p := by unfold wE; rw [if_neg e2]
        have hpN : p < N := by
          unfold lk at e1
          split at e1
          · assumption
          · exact absurd e1 (by decide)
        have := le_lt hpN (by unfold lk at e1; rw [if_pos hpN] at e1; exact e1)
        omega
end TP3
