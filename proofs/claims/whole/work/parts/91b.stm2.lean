/-! the class reads statements: names, rows of numbers -/
def sFor (T : Int → Int) (N j hi : Int) : Nat → q_F → Int → Int → Int → q_R (q_F × Int × Int)
  | 0, S, _, p, e => .inr (S, p, e)
  | m + 1, S, k, p, e => rb (sNum S T N j k 0 hi p e) (fun s => sFor T N j hi m s.1 (k + 1) s.2.1 s.2.2)
def sNew (S : q_F) (T : Int → Int) (N k p e : Int) : q_R (q_F × Int × Int) := rb (l_name T N p e) (fun s => if gvn S (pk32 s.1) then .inl (3, p) else .inr (addN S k (pk32 s.1), s.2.1, s.2.2))
def sOld (S : q_F) (T : Int → Int) (N k p e : Int) : q_R (Int × Int × Int) := rb (l_name T N p e) (fun s => if nmS S k (pk32 s.1) = -1 then .inl (3, p) else .inr (nmS S k (pk32 s.1), s.2.1, s.2.2))
section STM2
variable {D : q_D} {f f' S : q_F} {A : q_As} {g h : Int} {T : Int → Int} {N p e : Int}
theorem l_name_rg {l : List Int} {q d : Int} (hp : p ≤ N) (h : l_name T N p e = .inr (l, q, d)) : isNm l ∧ (0 ≤ pk32 l ∧ pk32 l < 1073741824) ∧ p + 1 ≤ q ∧ q ≤ N := by
  unfold l_name at h
  split at h
  · next hc =>
    have hpN := lk_isL hc.1
    have h1 := le_rg (T := T) hp
    have h2 := le_lt hpN.1 hpN.2
    have h3 := sk_rg (T := T) (p := le T N p) h1.2.1
    split at h
    · cases h
      have hL : ∀ j, p ≤ j → j < p + ((le T N p - p).toNat : Int) → isL (T j) = true := fun j a b => h1.2.2.1 j a (by omega)
      have h4 := namN_rg (T := T) (p := p) (le T N p - p).toNat hL
      have h5 := pow32 (le T N p - p).toNat (by omega)
      refine ⟨⟨by rw [sg_len]; omega, by rw [sg_len]; omega, sg_isL hL⟩, ?_, by omega, by omega⟩
      rw [pk32_sg]; omega
    · cases h
  · cases h
theorem cN_inl {x : Int} {r : q_R (List Int × Int × Int)} {e0 : Int × Int} (h : cN f f' T N p x r) (hr : r = .inl e0) : x = 0 ∧ f' 1 3 = e0.1 ∧ f' 1 4 = e0.2 ∧ cK f f' := by subst hr; exact h
theorem cN_inr {x : Int} {r : q_R (List Int × Int × Int)} {l : List Int} {q d : Int} (h : cN f f' T N p x r) (hr : r = .inr (l, q, d)) : x = 1 ∧ tpS f' T N q d ∧ f' 1 6 = pk32 l ∧ f' 1 5 = p ∧ f' 1 3 = f 1 3 ∧ f' 1 4 = f 1 4 ∧ cK f f' := by subst hr; exact h
theorem ok_readForTraits (hh : q_G h) {L : List Int} (hC : cM h f S T N p e L) (hW : 0 ≤ S 1 0 ∧ S 1 0 ≤ 6) {j hi : Int} (hj : 8 ≤ j ∧ j < 84) (hc : q_ce 274 (h + j) 20 6) (hhi : -2147483648 ≤ hi ∧ hi < 2147483648) : OkI D m_gr_readForTraits [vr D 3, vr D (h + j), vi hi] (Zg g h) f (fun x f' => cS h f f' T N x L (sFor T N j hi (S 1 0).toNat S 0 p e)) := by
  have hg2 := q_G51 hh
  refine OkB_of (L0 := [vr D 3, vr D (h + j), vi hi, vu]) mi_gr_readForTraits rfl rfl (Nat.le_of_ble_eq_true rfl) (fun C hR => ?_)
  generalize hr : sFor T N j hi (S 1 0).toNat S 0 p e = r at *
  have loop : ∀ (m : Nat) (k : Int) (F S1 : q_F) (q d : Int), k + m = S 1 0 → 0 ≤ k → cM h F S1 T N q d L → S1 1 0 = S 1 0 → sFor T N j hi m S1 k q d = r → sK h f F → F 1 3 = f 1 3 → F 1 4 = f 1 4 → V D C m_gr_readForTraits 2 [vr D 3, vr D (h + j), vi hi, vi k] [] (Zg g h) F := by
    intro m
    induction m with
    | zero =>
      intro k F S1 q d hm h0 hC1 hS1 hs hk f3 f4
      have hc1 := hC1.2.1.1 1 0 (by decide) (by decide)
      refine V_iload_3 d_gr_readForTraits_2 ?_
      refine V_aload_0 d_gr_readForTraits_3 ?_
      refine V_getR d_gr_readForTraits_4 fl_gr_24 is_gr (r_gr_into hh) ?_
      refine V_getR d_gr_readForTraits_7 fl_gr_121 (is_gd hh) (r_gd_counts hh) ?_
      refine V_iconst 0 d_gr_readForTraits_10 ?_
      refine V_iald d_gr_readForTraits_11 (is_gd_counts hh) (by omega) (by omega) ?_
      rw [hc1, hS1]
      refine V_icmp_ge 34 d_gr_readForTraits_12 (by decide) (by omega) (by omega) (fun c12 => ?_) (fun c12 => by omega)
      refine V_iconst 1 d_gr_readForTraits_34 ?_
      refine V_ireturn d_gr_readForTraits_35 (hR _ _ (by decide) ?_)
      rw [← hs]
      exact ⟨rfl, hC1.1, hC1.2.1, hC1.2.2, f3, f4, hk⟩
    | succ m ih =>
      intro k F S1 q d hm h0 hC1 hS1 hs hk f3 f4
      have hc1 := hC1.2.1.1 1 0 (by decide) (by decide)
      have hs2 : rb (sNum S1 T N j k 0 hi q d) (fun s => sFor T N j hi m s.1 (k + 1) s.2.1 s.2.2) = r := hs
      have okn := ok_readNumber (D := D) (g := g) hh hC1 (j := j) (k := k) (lo := 0) (hi := hi) (n := 6) (by omega) hc (by omega) (by decide) (by decide) hhi
      cases hn : sNum S1 T N j k 0 hi q d with
      | inl e0 =>
        rw [hn] at okn hs2
        refine V_iload_3 d_gr_readForTraits_2 ?_
        refine V_aload_0 d_gr_readForTraits_3 ?_
        refine V_getR d_gr_readForTraits_4 fl_gr_24 is_gr (r_gr_into hh) ?_
        refine V_getR d_gr_readForTraits_7 fl_gr_121 (is_gd hh) (r_gd_counts hh) ?_
        refine V_iconst 0 d_gr_readForTraits_10 ?_
        refine V_iald d_gr_readForTraits_11 (is_gd_counts hh) (by omega) (by omega) ?_
        rw [hc1, hS1]
        refine V_icmp_ge 34 d_gr_readForTraits_12 (by decide) (by omega) (by omega) (fun c12 => by omega) (fun c12 => ?_)
        refine V_aload_0 d_gr_readForTraits_15 ?_
        refine V_aload_1 d_gr_readForTraits_16 ?_
        refine V_iload_3 d_gr_readForTraits_17 ?_
        refine V_iconst 0 d_gr_readForTraits_18 ?_
        refine V_iload_2 d_gr_readForTraits_19 ?_
        refine V_cvI4 d_gr_readForTraits_20 ml_gr_114 mv_gr_readNumber (by decide) (Nat.le_of_ble_eq_true rfl) is_gr (okn) ?_
        rintro x F2 ⟨rfl, b1, b2, b3⟩
        refine V_if_ne 28 d_gr_readForTraits_23 (by decide) (by omega) (fun c23 => by omega) (fun c23 => ?_)
        refine V_iconst 0 d_gr_readForTraits_26 ?_
        refine V_ireturn d_gr_readForTraits_27 (hR _ _ (by decide) ?_)
        rw [← hs2]
        exact ⟨rfl, b1, b2, hk.tr b3⟩
      | inr s =>
        have hSs : s.1 1 0 = S 1 0 := by
          unfold sNum at hn
          cases hl : l_num T N 0 hi q d with
          | inl e0 => rw [hl] at hn; cases hn
          | inr u => rw [hl] at hn; cases hn; show q_up S1 j k u.1 1 0 = _; rw [q_up_at (by omega)]; exact hS1
        rw [hn] at okn hs2
        refine V_iload_3 d_gr_readForTraits_2 ?_
        refine V_aload_0 d_gr_readForTraits_3 ?_
        refine V_getR d_gr_readForTraits_4 fl_gr_24 is_gr (r_gr_into hh) ?_
        refine V_getR d_gr_readForTraits_7 fl_gr_121 (is_gd hh) (r_gd_counts hh) ?_
        refine V_iconst 0 d_gr_readForTraits_10 ?_
        refine V_iald d_gr_readForTraits_11 (is_gd_counts hh) (by omega) (by omega) ?_
        rw [hc1, hS1]
        refine V_icmp_ge 34 d_gr_readForTraits_12 (by decide) (by omega) (by omega) (fun c12 => by omega) (fun c12 => ?_)
        refine V_aload_0 d_gr_readForTraits_15 ?_
        refine V_aload_1 d_gr_readForTraits_16 ?_
        refine V_iload_3 d_gr_readForTraits_17 ?_
        refine V_iconst 0 d_gr_readForTraits_18 ?_
        refine V_iload_2 d_gr_readForTraits_19 ?_
        refine V_cvI4 d_gr_readForTraits_20 ml_gr_114 mv_gr_readNumber (by decide) (Nat.le_of_ble_eq_true rfl) is_gr (okn) ?_
        rintro x F2 ⟨rfl, b1, b2, b3, b4, b5, b6⟩
        refine V_if_ne 28 d_gr_readForTraits_23 (by decide) (by omega) (fun c23 => ?_) (fun c23 => by omega)
        refine V_iinc_3 d_gr_readForTraits_28 rfl ?_
        refine V_goto 2 d_gr_readForTraits_31 (by decide) ?_
        exact ih _ F2 s.1 _ _ (by omega) (by omega) ⟨b1, b2, b3⟩ hSs hs2 (hk.tr b6) (by rw [b4, f3]) (by rw [b5, f4])
  refine V_iconst 0 d_gr_readForTraits_0 ?_
  refine V_istore_3 d_gr_readForTraits_1 rfl ?_
  exact loop (S 1 0).toNat _ f S p e (by omega) (by decide) hC rfl hr (sK.refl f) rfl rfl
theorem ok_readNewName (hh : q_G h) {L : List Int} (hC : cM h f S T N p e L) (hW : pW S) {k : Int} (hk : 0 ≤ k ∧ k < 4) (hroom : S 1 k < mst k) : OkI D m_gr_readNewName [vr D 3, vi k] (Zg g h) f (fun x f' => cS h f f' T N x L (sNew S T N k p e)) := by
  have hg2 := q_G51 hh
  have hp := hC.1.pr
  unfold sNew
  refine OkB_of (L0 := [vr D 3, vi k]) mi_gr_readNewName rfl rfl (Nat.le_of_ble_eq_true rfl) (fun C hR => ?_)
  cases hn : l_name T N p e with
  | inl e0 =>
    refine V_aload_0 d_gr_readNewName_0 ?_
    refine V_getR d_gr_readNewName_1 fl_gr_9 is_gr r_gr_tape ?_
    refine V_cvI0 d_gr_readNewName_4 ml_gr_171 mv_tp_takeName (by decide) (Nat.le_of_ble_eq_true rfl) is_tp (ok_takeName hC.1) ?_
    rintro x F hx
    obtain ⟨rfl, b1, b2, b3⟩ := cN_inl hx hn
    refine V_if_ne 12 d_gr_readNewName_7 (by decide) (by omega) (fun c7 => by omega) (fun c7 => ?_)
    refine V_iconst 0 d_gr_readNewName_10 ?_
    refine V_ireturn d_gr_readNewName_11 (hR _ _ (by decide) ?_)
    rw [hn]
    exact ⟨rfl, b1, b2, b3.s⟩
  | inr s =>
    obtain ⟨l, q, d⟩ := s
    have hl := l_name_rg hp.2.1 hn
    have er : rb (l_name T N p e) (fun s => if gvn S (pk32 s.1) then (.inl (3, p) : q_R (q_F × Int × Int)) else .inr (addN S k (pk32 s.1), s.2.1, s.2.2)) = if gvn S (pk32 l) then .inl (3, p) else .inr (addN S k (pk32 l), q, d) := by rw [hn]; rfl
    rw [er] at hR
    refine V_aload_0 d_gr_readNewName_0 ?_
    refine V_getR d_gr_readNewName_1 fl_gr_9 is_gr r_gr_tape ?_
    refine V_cvI0 d_gr_readNewName_4 ml_gr_171 mv_tp_takeName (by decide) (Nat.le_of_ble_eq_true rfl) is_tp (ok_takeName hC.1) ?_
    rintro x F hx
    obtain ⟨rfl, t3, a6, a5, a3, a4, k3⟩ := cN_inr hx hn
    have hE3 := hC.2.1.ck hh k3
    refine V_if_ne 12 d_gr_readNewName_7 (by decide) (by omega) (fun c7 => ?_) (fun c7 => by omega)
    refine V_aload_0 d_gr_readNewName_12 ?_
    refine V_getR d_gr_readNewName_13 fl_gr_24 is_gr (r_gr_into hh) ?_
    refine V_aload_0 d_gr_readNewName_16 ?_
    refine V_getR d_gr_readNewName_17 fl_gr_9 is_gr r_gr_tape ?_
    refine V_getI d_gr_readNewName_20 fl_gr_149 is_tp ?_
    rw [a6]
    refine V_cvI1 d_gr_readNewName_23 ml_gr_174 mv_gd_isGiven (by decide) (Nat.le_of_ble_eq_true rfl) (is_gd hh) (ok_isGiven hh hE3 hW hl.2.1) ?_
    rintro x23 f2 ⟨hx23, e2⟩
    rw [e2]; clear e2 f2
    refine V_if_eq 45 d_gr_readNewName_26 (by decide) (by rcases hx23 with h | h <;> omega) (fun c26 => ?_) (fun c26 => ?_)
    · skip
      refine V_aload_0 d_gr_readNewName_45 ?_
      refine V_getR d_gr_readNewName_46 fl_gr_24 is_gr (r_gr_into hh) ?_
      refine V_iload_1 d_gr_readNewName_49 ?_
      refine V_aload_0 d_gr_readNewName_50 ?_
      refine V_getR d_gr_readNewName_51 fl_gr_9 is_gr r_gr_tape ?_
      refine V_getI d_gr_readNewName_54 fl_gr_149 is_tp ?_
      rw [a6]
      refine V_cvV2 d_gr_readNewName_57 ml_gr_177 mv_gd_addNamed (by decide) (Nat.le_of_ble_eq_true rfl) (is_gd hh) (ok_addNamed hh hE3 hW hk hroom) ?_
      rintro F4 ⟨e4, k4, -, n4⟩
      refine V_iconst 1 d_gr_readNewName_60 ?_
      refine V_ireturn d_gr_readNewName_61 (hR _ _ (by decide) ?_)
      rw [if_neg (q_b0 hx23 c26)]
      exact ⟨rfl, t3.fr (fun j i hj => n4 j i (by omega)), e4, ⟨by rw [n4 _ _ (by decide)]; exact (hC.2.2.fr k3).1, fun i hi => by rw [n4 _ _ (by decide)]; exact (hC.2.2.fr k3).2 i hi⟩, by rw [n4 _ _ (by decide)]; exact a3, by rw [n4 _ _ (by decide)]; exact a4, k3.s.tr k4⟩
    · skip
      refine V_aload_0 d_gr_readNewName_29 ?_
      refine V_getR d_gr_readNewName_30 fl_gr_9 is_gr r_gr_tape ?_
      refine V_iconst 3 d_gr_readNewName_33 ?_
      refine V_aload_0 d_gr_readNewName_34 ?_
      refine V_getR d_gr_readNewName_35 fl_gr_9 is_gr r_gr_tape ?_
      refine V_getI d_gr_readNewName_38 fl_gr_152 is_tp ?_
      rw [a5]
      refine V_cvI2 d_gr_readNewName_41 ml_gr_58 mv_tp_fail (by decide) (Nat.le_of_ble_eq_true rfl) is_tp (ok_tfail (by decide)) ?_
      rintro x f9 ⟨hx, e9⟩
      rw [hx, e9]; clear hx e9 f9
      refine V_ireturn d_gr_readNewName_44 (hR _ _ (by decide) ?_)
      rw [if_pos (q_b1 hx23 c26)]
      exact ⟨rfl, by rw [q_up_ne (Or.inr (by decide)), q_up_eq], q_up_eq _ _ _ _, k3.s.tr (cK.refl F).up.up.s⟩
theorem ok_readKnownName (hh : q_G h) {L : List Int} (hC : cM h f S T N p e L) (hW : pW S) {k : Int} (hk : 0 ≤ k ∧ k < 4) : OkI D m_gr_readKnownName [vr D 3, vi k] (Zg g h) f (fun x f' => cV f f' T N p x (sOld S T N k p e)) := by
  have hg2 := q_G51 hh
  have hp := hC.1.pr
  unfold sOld
  refine OkB_of (L0 := [vr D 3, vi k]) mi_gr_readKnownName rfl rfl (Nat.le_of_ble_eq_true rfl) (fun C hR => ?_)
  cases hn : l_name T N p e with
  | inl e0 =>
    refine V_aload_0 d_gr_readKnownName_0 ?_
    refine V_getR d_gr_readKnownName_1 fl_gr_9 is_gr r_gr_tape ?_
    refine V_cvI0 d_gr_readKnownName_4 ml_gr_171 mv_tp_takeName (by decide) (Nat.le_of_ble_eq_true rfl) is_tp (ok_takeName hC.1) ?_
    rintro x F hx
    obtain ⟨rfl, b1, b2, b3⟩ := cN_inl hx hn
    refine V_if_ne 12 d_gr_readKnownName_7 (by decide) (by omega) (fun c7 => by omega) (fun c7 => ?_)
    refine V_iconst 0 d_gr_readKnownName_10 ?_
    refine V_ireturn d_gr_readKnownName_11 (hR _ _ (by decide) ?_)
    rw [hn]
    exact ⟨rfl, b1, b2, b3⟩
  | inr s =>
    obtain ⟨l, q, d⟩ := s
    have hl := l_name_rg hp.2.1 hn
    have er : rb (l_name T N p e) (fun s => if nmS S k (pk32 s.1) = -1 then (.inl (3, p) : q_R (Int × Int × Int)) else .inr (nmS S k (pk32 s.1), s.2.1, s.2.2)) = if nmS S k (pk32 l) = -1 then .inl (3, p) else .inr (nmS S k (pk32 l), q, d) := by rw [hn]; rfl
    rw [er] at hR
    have hnr := nmS_rg hW hk (pk32 l)
    have hcn := hW.cn hk
    refine V_aload_0 d_gr_readKnownName_0 ?_
    refine V_getR d_gr_readKnownName_1 fl_gr_9 is_gr r_gr_tape ?_
    refine V_cvI0 d_gr_readKnownName_4 ml_gr_171 mv_tp_takeName (by decide) (Nat.le_of_ble_eq_true rfl) is_tp (ok_takeName hC.1) ?_
    rintro x F hx
    obtain ⟨rfl, t3, a6, a5, a3, a4, k3⟩ := cN_inr hx hn
    have hE3 := hC.2.1.ck hh k3
    refine V_if_ne 12 d_gr_readKnownName_7 (by decide) (by omega) (fun c7 => ?_) (fun c7 => by omega)
    refine V_aload_0 d_gr_readKnownName_12 ?_
    refine V_getR d_gr_readKnownName_13 fl_gr_9 is_gr r_gr_tape ?_
    refine V_aload_0 d_gr_readKnownName_16 ?_
    refine V_getR d_gr_readKnownName_17 fl_gr_24 is_gr (r_gr_into hh) ?_
    refine V_iload_1 d_gr_readKnownName_20 ?_
    refine V_aload_0 d_gr_readKnownName_21 ?_
    refine V_getR d_gr_readKnownName_22 fl_gr_9 is_gr r_gr_tape ?_
    refine V_getI d_gr_readKnownName_25 fl_gr_149 is_tp ?_
    rw [a6]
    refine V_cvI2 d_gr_readKnownName_28 ml_gr_181 mv_gd_named (by decide) (Nat.le_of_ble_eq_true rfl) (is_gd hh) (ok_named hh hE3 hW hk hl.2.1) ?_
    rintro _ f2 ⟨rfl, e2⟩
    rw [e2]; clear e2 f2
    refine V_putI d_gr_readKnownName_31 fl_gr_149 is_tp ?_
    refine V_aload_0 d_gr_readKnownName_34 ?_
    refine V_getR d_gr_readKnownName_35 fl_gr_9 is_gr r_gr_tape ?_
    refine V_getI d_gr_readKnownName_38 fl_gr_149 is_tp ?_
    rw [q_up_eq]
    refine V_iconst (-1) d_gr_readKnownName_41 ?_
    refine V_icmp_ne 63 d_gr_readKnownName_42 (by decide) (by omega) (by decide) (fun c42 => ?_) (fun c42 => ?_)
    · skip
      refine V_iconst 1 d_gr_readKnownName_63 ?_
      refine V_goto 68 d_gr_readKnownName_64 (by decide) ?_
      refine V_ireturn d_gr_readKnownName_68 (hR _ _ (by decide) ?_)
      rw [if_neg c42]
      exact ⟨rfl, t3.to (cK.refl F).up (by rw [q_up_ne (Or.inr (by decide))]; exact t3.2.1) (by rw [q_up_ne (Or.inr (by decide))]; exact t3.2.2.2.1) (by rw [q_up_ne (Or.inr (by decide))]; exact t3.2.2.2.2.1) (by rw [q_up_ne (Or.inr (by decide))]; exact t3.2.2.2.2.2.1) t3.2.2.2.2.2.2, q_up_eq _ _ _ _, by rw [q_up_ne (Or.inr (by decide))]; exact a5, by rw [q_up_ne (Or.inr (by decide))]; exact a3, by rw [q_up_ne (Or.inr (by decide))]; exact a4, k3.up⟩
    · skip
      refine V_aload_0 d_gr_readKnownName_45 ?_
      refine V_getR d_gr_readKnownName_46 fl_gr_9 is_gr r_gr_tape ?_
      refine V_iconst 3 d_gr_readKnownName_49 ?_
      refine V_aload_0 d_gr_readKnownName_50 ?_
      refine V_getR d_gr_readKnownName_51 fl_gr_9 is_gr r_gr_tape ?_
      refine V_getI d_gr_readKnownName_54 fl_gr_152 is_tp ?_
      rw [q_up_ne (Or.inr (by decide)), a5]
      refine V_cvI2 d_gr_readKnownName_57 ml_gr_58 mv_tp_fail (by decide) (Nat.le_of_ble_eq_true rfl) is_tp (ok_tfail (by decide)) ?_
      rintro x f9 ⟨hx, e9⟩
      rw [hx, e9]; clear hx e9 f9
      refine V_if_eq 67 d_gr_readKnownName_60 (by decide) (by omega) (fun c60 => ?_) (fun c60 => by omega)
      refine V_iconst 0 d_gr_readKnownName_67 ?_
      refine V_ireturn d_gr_readKnownName_68 (hR _ _ (by decide) ?_)
      rw [if_pos (by omega)]
      exact ⟨rfl, by rw [q_up_ne (Or.inr (by decide)), q_up_eq], q_up_eq _ _ _ _, k3.up.up.up⟩
def sTithe (S : q_F) (T : Int → Int) (N p e : Int) : q_R (q_F × Int × Int) := sNum S T N 0 14 0 100 p e
theorem ok_readTithe (hh : q_G h) {L : List Int} (hC : cM h f S T N p e L) : OkI D m_gr_readTithe [vr D 3] (Zg g h) f (fun x f' => cS h f f' T N x L (sTithe S T N p e)) := by
  have hg2 := q_G51 hh
  unfold sTithe sNum
  refine OkB_of (L0 := [vr D 3]) mi_gr_readTithe rfl rfl (Nat.le_of_ble_eq_true rfl) (fun C hR => ?_)
  cases hn2 : l_num T N 0 100 p e with
  | inl e0 =>
    refine V_aload_0 d_gr_readTithe_0 ?_
    refine V_getR d_gr_readTithe_1 fl_gr_9 is_gr r_gr_tape ?_
    refine V_iconst 0 d_gr_readTithe_4 ?_
    refine V_bipush 100 d_gr_readTithe_5 (by decide) ?_
    refine V_cvI2 d_gr_readTithe_7 ml_gr_155 mv_tp_takeNumber (by decide) (Nat.le_of_ble_eq_true rfl) is_tp (ok_takeNumber hC.1 (by decide) (by decide)) ?_
    rintro x F hx
    obtain ⟨rfl, b1, b2, b3⟩ := cV_inl hx hn2
    refine V_if_ne 15 d_gr_readTithe_10 (by decide) (by omega) (fun c10 => by omega) (fun c10 => ?_)
    refine V_iconst 0 d_gr_readTithe_13 ?_
    refine V_ireturn d_gr_readTithe_14 (hR _ _ (by decide) ?_)
    rw [hn2]
    exact ⟨rfl, b1, b2, b3.s⟩
  | inr s =>
    obtain ⟨v, q, d⟩ := s
    refine V_aload_0 d_gr_readTithe_0 ?_
    refine V_getR d_gr_readTithe_1 fl_gr_9 is_gr r_gr_tape ?_
    refine V_iconst 0 d_gr_readTithe_4 ?_
    refine V_bipush 100 d_gr_readTithe_5 (by decide) ?_
    refine V_cvI2 d_gr_readTithe_7 ml_gr_155 mv_tp_takeNumber (by decide) (Nat.le_of_ble_eq_true rfl) is_tp (ok_takeNumber hC.1 (by decide) (by decide)) ?_
    rintro x F hx
    obtain ⟨rfl, t3, a6, a5, a3, a4, k3⟩ := cV_inr hx hn2
    refine V_if_ne 15 d_gr_readTithe_10 (by decide) (by omega) (fun c10 => ?_) (fun c10 => by omega)
    refine V_aload_0 d_gr_readTithe_15 ?_
    refine V_getR d_gr_readTithe_16 fl_gr_24 is_gr (r_gr_into hh) ?_
    refine V_aload_0 d_gr_readTithe_19 ?_
    refine V_getR d_gr_readTithe_20 fl_gr_9 is_gr r_gr_tape ?_
    refine V_getI d_gr_readTithe_23 fl_gr_149 is_tp ?_
    rw [a6]
    refine V_putI d_gr_readTithe_26 fl_gr_168 (is_gd hh) ?_
    refine V_iconst 1 d_gr_readTithe_29 ?_
    refine V_ireturn d_gr_readTithe_30 (hR _ _ (by decide) ?_)
    rw [hn2]
    have e1 := (hC.2.1.ck hh k3).up hh (j := 0) (by decide) (by decide) 14 v
    have t1 := t3.up hh (j := 0) (by decide) 14 v
    have s1 := sK.up (k3.s (h := h)) (j := 0) (by decide) (by decide) 14 v
    rw [Int.add_zero] at e1 t1 s1
    exact ⟨rfl, t1, e1, ⟨by rw [q_up_at (by omega)]; exact (hC.2.2.fr k3).1, fun i hi => by rw [q_up_at (by omega)]; exact (hC.2.2.fr k3).2 i hi⟩, by rw [q_up_at (by omega)]; exact a3, by rw [q_up_at (by omega)]; exact a4, s1⟩
end STM2
