/-! the class reads statements: traits, rules, what is full -/
section STM6
variable {D : q_D} {f f' S : q_F} {A : q_As} {g h : Int} {T : Int → Int} {N p e : Int}
theorem pW.up2 (hW : pW S) {j k x : Int} (hj : j = 0 ∨ (8 ≤ j ∧ j < 37) ∨ 45 ≤ j) : pW (q_up S j k x) := by
  unfold pW
  simp only [q_up_at (f := S) (j := j) (k := k) (x := x) (a := 1) (by omega)]
  refine ⟨hW.1, hW.2.1, hW.2.2.1, hW.2.2.2.1, hW.2.2.2.2.1, hW.2.2.2.2.2.1, hW.2.2.2.2.2.2.1, fun i w a b c d => ?_, fun a b c d e f => ?_⟩
  · rw [q_up_at (by omega)]; exact hW.2.2.2.2.2.2.2.1 i w a b c d
  · rw [q_up_at (by omega)]; exact hW.2.2.2.2.2.2.2.2 a b c d e f
theorem pW_addN (hW : pW S) {k v : Int} (hk : 0 ≤ k ∧ k < 4) (hr : S 1 k < mst k) (hv : 0 ≤ v ∧ v < 1073741824) : pW (addN S k v) := by
  have e1 : ∀ i, addN S k v 1 i = if i = k then S 1 k + 1 else S 1 i := fun i => by
    unfold addN
    by_cases e : i = k
    · rw [if_pos e, e, q_up_eq]
    · rw [if_neg e, q_up_ne (by omega), q_up_at (by omega)]
  have hm : ∀ i, addN S k v 1 i = S 1 i ∨ (i = k ∧ addN S k v 1 i = S 1 k + 1) := fun i => by
    rw [e1]; split
    · next e => exact Or.inr ⟨e, rfl⟩
    · exact Or.inl rfl
  obtain ⟨a0, a1, a2, a3, a4, a5, a6, a7, a8⟩ := hW
  have hmk : mst k = if k = 0 then 6 else if k = 1 then 8 else if k = 2 then 5 else 8 := by
    rcases (show k = 0 ∨ k = 1 ∨ k = 2 ∨ k = 3 by omega) with e | e | e | e <;> subst e <;> rfl
  refine ⟨?_, ?_, ?_, ?_, ?_, ?_, ?_, fun i w i0 i1 w0 w1 => ?_, fun a b c d e f => ?_⟩
  · rcases hm 0 with h | ⟨h1, h2⟩
    · rw [h]; exact a0
    · rw [h2]; subst h1; rw [hmk] at hr; simp at hr; omega
  · rcases hm 1 with h | ⟨h1, h2⟩
    · rw [h]; exact a1
    · rw [h2]; subst h1; rw [hmk] at hr; simp at hr; omega
  · rcases hm 2 with h | ⟨h1, h2⟩
    · rw [h]; exact a2
    · rw [h2]; subst h1; rw [hmk] at hr; simp at hr; omega
  · rcases hm 3 with h | ⟨h1, h2⟩
    · rw [h]; exact a3
    · rw [h2]; subst h1; rw [hmk] at hr; simp at hr; omega
  · rw [e1, if_neg (by omega)]; exact a4
  · rw [e1, if_neg (by omega)]; exact a5
  · rw [e1, if_neg (by omega)]; exact a6
  · rw [e1] at w1
    unfold addN
    rw [q_up_at (by omega)]
    by_cases e : i = k
    · subst e
      rw [if_pos rfl] at w1
      by_cases e2 : w = S 1 i
      · rw [e2, q_up_eq]; exact hv
      · rw [q_up_ne (Or.inr e2)]; exact a7 i w i0 i1 w0 (by omega)
    · rw [if_neg e] at w1
      rw [q_up_at (by omega)]; exact a7 i w i0 i1 w0 w1
  · unfold addN
    rw [q_up_at (by omega), q_up_at (by omega)]; exact a8 a b c d e f
theorem sNum_W (hW : pW S) {S' : q_F} {j k lo hi q d : Int} (hj : j = 0 ∨ (8 ≤ j ∧ j < 37) ∨ 45 ≤ j) (hs : sNum S T N j k lo hi p e = .inr (S', q, d)) : pW S' := by
  unfold sNum at hs
  cases hl : l_num T N lo hi p e with
  | inl e0 => rw [hl] at hs; cases hs
  | inr u => rw [hl] at hs; cases hs; exact hW.up2 hj
theorem sFor_W {j hi : Int} (hj : j = 0 ∨ (8 ≤ j ∧ j < 37) ∨ 45 ≤ j) : ∀ (m : Nat) (S S' : q_F) (k p e q d : Int), pW S → sFor T N j hi m S k p e = .inr (S', q, d) → pW S' := by
  intro m
  induction m with
  | zero => intro S S' k p e q d hW h; cases h; exact hW
  | succ m ih =>
    intro S S' k p e q d hW h
    have h : rb (sNum S T N j k 0 hi p e) (fun s => sFor T N j hi m s.1 (k + 1) s.2.1 s.2.2) = .inr (S', q, d) := h
    cases hn : sNum S T N j k 0 hi p e with
    | inl e0 => rw [hn] at h; cases h
    | inr s =>
      obtain ⟨S1, q1, d1⟩ := s
      rw [hn] at h
      exact ih S1 S' _ _ _ _ _ (sNum_W hW hj hn) h
theorem sNew_W (hW : pW S) {k : Int} (hk : 0 ≤ k ∧ k < 4) (hr : S 1 k < mst k) (hp : p ≤ N) {S' : q_F} {q d : Int} (hs : sNew S T N k p e = .inr (S', q, d)) : pW S' ∧ (∀ i, S' 1 i = if i = k then S 1 k + 1 else S 1 i) := by
  unfold sNew at hs
  cases hl : l_name T N p e with
  | inl e0 => rw [hl] at hs; cases hs
  | inr u =>
    rw [hl] at hs
    have hs : (if gvn S (pk32 u.1) then (.inl (3, p) : q_R (q_F × Int × Int)) else .inr (addN S k (pk32 u.1), u.2.1, u.2.2)) = .inr (S', q, d) := hs
    split at hs
    · cases hs
    · cases hs
      have := (l_name_rg (l := u.1) (q := u.2.1) (d := u.2.2) hp hl).2.1
      refine ⟨pW_addN hW hk hr this, fun i => ?_⟩
      unfold addN
      by_cases e : i = k
      · rw [if_pos e, e, q_up_eq]
      · rw [if_neg e, q_up_ne (by omega), q_up_at (by omega)]
theorem ok_readTraits (hh : q_G h) {L : List Int} (hC : cM h f S T N p e L) (hW : pW S) (h0 : S 1 0 = 0) : OkI D m_gr_readTraits [vr D 3] (Zg g h) f (fun x f' => cS h f f' T N x L (sTr T N 6 0 S p e)) := by
  have hg2 := q_G51 hh
  refine OkB_of (L0 := [vr D 3, vu, vu, vu]) mi_gr_readTraits rfl rfl (Nat.le_of_ble_eq_true rfl) (fun C hR => ?_)
  generalize hr : sTr T N 6 0 S p e = r at *
  have KF : ∀ (F : q_F) (t : Int) (u : Value), cS h f F T N 0 L r → V D C m_gr_readTraits 66 [vr D 3, vi 1, vi t, u] [] (Zg g h) F := by
    intro F t u hx
    refine V_iconst 0 d_gr_readTraits_66 ?_
    refine V_istore_3 d_gr_readTraits_67 rfl ?_
    refine V_iload_3 d_gr_readTraits_68 ?_
    refine V_if_ne 74 d_gr_readTraits_69 (by decide) (by omega) (fun c69 => by omega) (fun c69 => ?_)
    refine V_iconst 0 d_gr_readTraits_72 ?_
    refine V_ireturn d_gr_readTraits_73 (hR _ _ (by decide) ?_)
    exact hx
  have loop : ∀ (m : Nat) (t : Int) (F S1 : q_F) (q d : Int) (u : Value), t + m = 6 → 0 ≤ t → cT h f F S1 T N q d L → pW S1 → S1 1 0 = t → sTr T N m t S1 q d = r → V D C m_gr_readTraits 4 [vr D 3, vi 1, vi t, u] [] (Zg g h) F := by
    intro m
    induction m with
    | zero =>
      intro t F S1 q d u hm t0 hT1 hW1 h10 hr1
      refine V_iload_2 d_gr_readTraits_4 ?_
      refine V_bipush 6 d_gr_readTraits_5 (by decide) ?_
      refine V_icmp_ge 103 d_gr_readTraits_7 (by decide) (by omega) (by omega) (fun c7 => ?_) (fun c7 => by omega)
      refine V_iconst 1 d_gr_readTraits_103 ?_
      refine V_ireturn d_gr_readTraits_104 (hR _ _ (by decide) ?_)
      rw [← hr1]; exact hT1.fin
    | succ m ih =>
      intro t F S1 q d u hm t0 hT1 hW1 h10 hr1
      have hr1 : rb (sTr1 T N t S1 q d) (fun s => if t < 5 ∧ lk T N s.2.1 = 44 then sTr T N m (t + 1) s.1 (sk T N (s.2.1 + 1)) s.2.2 else .inr s) = r := hr1
      have hp1 := hT1.1.1.pr
      have KE : ∀ (F2 S2 : q_F) (q2 d2 : Int) (u : Value), cT h f F2 S2 T N q2 d2 L → .inr (S2, q2, d2) = r → V D C m_gr_readTraits 4 [vr D 3, vi 0, vi (t + 1), u] [] (Zg g h) F2 := by
        intro F2 S2 q2 d2 u hT2 hr2
        by_cases e6 : t + 1 = 6
        · skip
          refine V_iload_2 d_gr_readTraits_4 ?_
          refine V_bipush 6 d_gr_readTraits_5 (by decide) ?_
          refine V_icmp_ge 103 d_gr_readTraits_7 (by decide) (by omega) (by omega) (fun c7 => ?_) (fun c7 => by omega)
          refine V_iconst 1 d_gr_readTraits_103 ?_
          refine V_ireturn d_gr_readTraits_104 (hR _ _ (by decide) ?_)
          rw [← hr2]; exact hT2.fin
        · skip
          refine V_iload_2 d_gr_readTraits_4 ?_
          refine V_bipush 6 d_gr_readTraits_5 (by decide) ?_
          refine V_icmp_ge 103 d_gr_readTraits_7 (by decide) (by omega) (by omega) (fun c7 => by omega) (fun c7 => ?_)
          refine V_iload_1 d_gr_readTraits_10 ?_
          refine V_if_eq 103 d_gr_readTraits_11 (by decide) (by omega) (fun c11 => ?_) (fun c11 => by omega)
          refine V_iconst 1 d_gr_readTraits_103 ?_
          refine V_ireturn d_gr_readTraits_104 (hR _ _ (by decide) ?_)
          rw [← hr2]; exact hT2.fin
      have K62 : ∀ (F2 S2 : q_F) (q2 d2 : Int) (u : Value), cT h f F2 S2 T N q2 d2 L → pW S2 → S2 1 0 = t + 1 → sTr1 T N t S1 q d = .inr (S2, q2, d2) → V D C m_gr_readTraits 62 [vr D 3, vi 1, vi t, u] [] (Zg g h) F2 := by
        intro F2 S2 q2 d2 u hT2 hW2 h20 hs
        rw [hs] at hr1
        have hr2 : (if t < 5 ∧ lk T N q2 = 44 then sTr T N m (t + 1) S2 (sk T N (q2 + 1)) d2 else .inr (S2, q2, d2)) = r := hr1
        refine V_iconst 1 d_gr_readTraits_62 ?_
        refine V_goto 67 d_gr_readTraits_63 (by decide) ?_
        refine V_istore_3 d_gr_readTraits_67 rfl ?_
        refine V_iload_3 d_gr_readTraits_68 ?_
        refine V_if_ne 74 d_gr_readTraits_69 (by decide) (by omega) (fun c69 => ?_) (fun c69 => by omega)
        refine V_iload_2 d_gr_readTraits_74 ?_
        refine V_iconst 5 d_gr_readTraits_75 ?_
        refine V_icmp_ge 95 d_gr_readTraits_76 (by decide) (by omega) (by omega) (fun c76 => ?_) (fun c76 => ?_)
        · skip
          refine V_iconst 0 d_gr_readTraits_95 ?_
          refine V_istore_1 d_gr_readTraits_96 rfl ?_
          refine V_iinc_2 d_gr_readTraits_97 rfl ?_
          refine V_goto 4 d_gr_readTraits_100 (by decide) ?_
          rw [if_neg (by omega)] at hr2
          exact KE F2 S2 q2 d2 _ hT2 hr2
        · skip
          refine V_aload_0 d_gr_readTraits_79 ?_
          refine V_getR d_gr_readTraits_80 fl_gr_9 is_gr r_gr_tape ?_
          refine V_bipush 44 d_gr_readTraits_83 (by decide) ?_
          refine V_cvI1 d_gr_readTraits_85 ml_gr_118 mv_tp_passOver (by decide) (Nat.le_of_ble_eq_true rfl) is_tp (ok_passOver hT2.1.1 (by decide)) ?_
          rintro x F3 hx
          refine V_if_eq 95 d_gr_readTraits_88 (by decide) (by omega) (fun c88 => ?_) (fun c88 => ?_)
          · skip
            obtain ⟨-, x2, x3⟩ := hx.resolve_left (fun h => by omega)
            rw [if_neg (fun h => x2 h.2)] at hr2
            subst x3
            have hT3 : cT h f (q_up F2 1 2 q2) S2 T N q2 d2 L := ⟨hT2.1.ck hh (cK.refl F2).up hT2.1.1.pl, by rw [q_up_ne (Or.inr (by decide))]; exact hT2.2.1, by rw [q_up_ne (Or.inr (by decide))]; exact hT2.2.2.1, hT2.2.2.2.tr (cK.refl F2).up.s⟩
            refine V_iconst 0 d_gr_readTraits_95 ?_
            refine V_istore_1 d_gr_readTraits_96 rfl ?_
            refine V_iinc_2 d_gr_readTraits_97 rfl ?_
            refine V_goto 4 d_gr_readTraits_100 (by decide) ?_
            exact KE _ S2 q2 d2 _ hT3 hr2
          · skip
            obtain ⟨-, x2, x3⟩ := hx.resolve_right (fun h => by omega)
            rw [if_pos ⟨by omega, x2⟩] at hr2
            subst x3
            have hT3 : cT h f (q_up F2 1 2 (q2 + 1)) S2 T N (sk T N (q2 + 1)) d2 L := ⟨hT2.1.ck hh (cK.refl F2).up (hT2.1.1.next (by decide) x2), by rw [q_up_ne (Or.inr (by decide))]; exact hT2.2.1, by rw [q_up_ne (Or.inr (by decide))]; exact hT2.2.2.1, hT2.2.2.2.tr (cK.refl F2).up.s⟩
            refine V_iconst 1 d_gr_readTraits_91 ?_
            refine V_goto 96 d_gr_readTraits_92 (by decide) ?_
            refine V_istore_1 d_gr_readTraits_96 rfl ?_
            refine V_iinc_2 d_gr_readTraits_97 rfl ?_
            refine V_goto 4 d_gr_readTraits_100 (by decide) ?_
            exact ih _ _ S2 _ _ _ (by omega) (by omega) hT3 hW2 h20 hr2
      have hsr : ∀ e0, sTr1 T N t S1 q d = .inl e0 → r = .inl e0 := fun e0 he => by rw [he] at hr1; exact hr1.symm
      have hce : q_ce 274 (h + (8 + t)) 20 2 := by rw [show h + (8 + t) = h + 8 + t by omega]; exact is_gd_shows_row hh (by omega)
      have K42 : ∀ (F2 S2 : q_F) (q2 d2 : Int) (u : Value), cT h f F2 S2 T N q2 d2 L → pW S2 → S2 1 0 = t + 1 → sTr1 T N t S1 q d = sTr3 T N t S2 q2 d2 → V D C m_gr_readTraits 42 [vr D 3, vi 1, vi t, u] [] (Zg g h) F2 := by
        intro F2 S2 q2 d2 u hT2 hW2 h20 hs
        unfold sTr3 at hs
        have okf := ok_readNumber (D := D) (g := g) hh hT2.1 (j := 8 + t) (k := 1) (lo := 0) (hi := 100) (n := 2) (by omega) hce (by decide) (by decide) (by decide) (by decide)
        cases hw : sNum S2 T N (8 + t) 1 0 100 q2 d2 with
        | inl e0 =>
          rw [hw] at hs
          refine V_aload_0 d_gr_readTraits_42 ?_
          refine V_aload_0 d_gr_readTraits_43 ?_
          refine V_getR d_gr_readTraits_44 fl_gr_24 is_gr (r_gr_into hh) ?_
          refine V_getR d_gr_readTraits_47 fl_gr_110 (is_gd hh) (r_gd_shows hh) ?_
          refine V_iload_2 d_gr_readTraits_50 ?_
          refine V_aald d_gr_readTraits_51 (is_gd_shows hh) (by omega) (by omega) (r_gd_showsrow hh (by omega)) ?_
          rw [show h + 8 + t = h + (8 + t) by omega]
          refine V_iconst 1 d_gr_readTraits_52 ?_
          refine V_iconst 0 d_gr_readTraits_53 ?_
          refine V_bipush 100 d_gr_readTraits_54 (by decide) ?_
          refine V_cvI4 d_gr_readTraits_56 ml_gr_114 mv_gr_readNumber (by decide) (Nat.le_of_ble_eq_true rfl) is_gr (okf) ?_
          rintro x3 F3 hx3
          obtain ⟨rfl, hz3⟩ := cS.il hT2 hx3 hw
          refine V_if_eq 66 d_gr_readTraits_59 (by decide) (by omega) (fun c59 => ?_) (fun c59 => by omega)
          exact KF F3 t _ (by rw [hsr e0 hs]; exact hz3)
        | inr s =>
          obtain ⟨S3, q3, d3⟩ := s
          rw [hw] at hs
          have e1 := sNum_1 (by omega) hw 0
          refine V_aload_0 d_gr_readTraits_42 ?_
          refine V_aload_0 d_gr_readTraits_43 ?_
          refine V_getR d_gr_readTraits_44 fl_gr_24 is_gr (r_gr_into hh) ?_
          refine V_getR d_gr_readTraits_47 fl_gr_110 (is_gd hh) (r_gd_shows hh) ?_
          refine V_iload_2 d_gr_readTraits_50 ?_
          refine V_aald d_gr_readTraits_51 (is_gd_shows hh) (by omega) (by omega) (r_gd_showsrow hh (by omega)) ?_
          rw [show h + 8 + t = h + (8 + t) by omega]
          refine V_iconst 1 d_gr_readTraits_52 ?_
          refine V_iconst 0 d_gr_readTraits_53 ?_
          refine V_bipush 100 d_gr_readTraits_54 (by decide) ?_
          refine V_cvI4 d_gr_readTraits_56 ml_gr_114 mv_gr_readNumber (by decide) (Nat.le_of_ble_eq_true rfl) is_gr (okf) ?_
          rintro x3 F3 hx3
          obtain ⟨rfl, hT3⟩ := cS.in hT2 hx3 hw
          refine V_if_eq 66 d_gr_readTraits_59 (by decide) (by omega) (fun c59 => by omega) (fun c59 => ?_)
          exact K62 F3 S3 q3 d3 _ hT3 (sNum_W hW2 (by omega) hw) (by rw [e1]; exact h20) hs
      have K22 : ∀ (F2 S2 : q_F) (q2 d2 : Int) (u : Value), cT h f F2 S2 T N q2 d2 L → pW S2 → S2 1 0 = t + 1 → sTr1 T N t S1 q d = sTr2 T N t S2 q2 d2 → V D C m_gr_readTraits 22 [vr D 3, vi 1, vi t, u] [] (Zg g h) F2 := by
        intro F2 S2 q2 d2 u hT2 hW2 h20 hs
        unfold sTr2 at hs
        have okf := ok_readNumber (D := D) (g := g) hh hT2.1 (j := 8 + t) (k := 0) (lo := 0) (hi := 100) (n := 2) (by omega) hce (by decide) (by decide) (by decide) (by decide)
        cases hw : sNum S2 T N (8 + t) 0 0 100 q2 d2 with
        | inl e0 =>
          rw [hw] at hs
          refine V_aload_0 d_gr_readTraits_22 ?_
          refine V_aload_0 d_gr_readTraits_23 ?_
          refine V_getR d_gr_readTraits_24 fl_gr_24 is_gr (r_gr_into hh) ?_
          refine V_getR d_gr_readTraits_27 fl_gr_110 (is_gd hh) (r_gd_shows hh) ?_
          refine V_iload_2 d_gr_readTraits_30 ?_
          refine V_aald d_gr_readTraits_31 (is_gd_shows hh) (by omega) (by omega) (r_gd_showsrow hh (by omega)) ?_
          rw [show h + 8 + t = h + (8 + t) by omega]
          refine V_iconst 0 d_gr_readTraits_32 ?_
          refine V_iconst 0 d_gr_readTraits_33 ?_
          refine V_bipush 100 d_gr_readTraits_34 (by decide) ?_
          refine V_cvI4 d_gr_readTraits_36 ml_gr_114 mv_gr_readNumber (by decide) (Nat.le_of_ble_eq_true rfl) is_gr (okf) ?_
          rintro x3 F3 hx3
          obtain ⟨rfl, hz3⟩ := cS.il hT2 hx3 hw
          refine V_if_eq 66 d_gr_readTraits_39 (by decide) (by omega) (fun c39 => ?_) (fun c39 => by omega)
          exact KF F3 t _ (by rw [hsr e0 hs]; exact hz3)
        | inr s =>
          obtain ⟨S3, q3, d3⟩ := s
          rw [hw] at hs
          have e1 := sNum_1 (by omega) hw 0
          refine V_aload_0 d_gr_readTraits_22 ?_
          refine V_aload_0 d_gr_readTraits_23 ?_
          refine V_getR d_gr_readTraits_24 fl_gr_24 is_gr (r_gr_into hh) ?_
          refine V_getR d_gr_readTraits_27 fl_gr_110 (is_gd hh) (r_gd_shows hh) ?_
          refine V_iload_2 d_gr_readTraits_30 ?_
          refine V_aald d_gr_readTraits_31 (is_gd_shows hh) (by omega) (by omega) (r_gd_showsrow hh (by omega)) ?_
          rw [show h + 8 + t = h + (8 + t) by omega]
          refine V_iconst 0 d_gr_readTraits_32 ?_
          refine V_iconst 0 d_gr_readTraits_33 ?_
          refine V_bipush 100 d_gr_readTraits_34 (by decide) ?_
          refine V_cvI4 d_gr_readTraits_36 ml_gr_114 mv_gr_readNumber (by decide) (Nat.le_of_ble_eq_true rfl) is_gr (okf) ?_
          rintro x3 F3 hx3
          obtain ⟨rfl, hT3⟩ := cS.in hT2 hx3 hw
          refine V_if_eq 66 d_gr_readTraits_39 (by decide) (by omega) (fun c39 => by omega) (fun c39 => ?_)
          exact K42 F3 S3 q3 d3 _ hT3 (sNum_W hW2 (by omega) hw) (by rw [e1]; exact h20) hs
      have hroom : S1 1 0 < mst 0 := by rw [h10]; show t < 6; omega
      have okn := ok_readNewName (D := D) (g := g) hh hT1.1 hW1 (k := 0) (by decide) hroom
      cases h1 : sNew S1 T N 0 q d with
      | inl e0 =>
        have hs : sTr1 T N t S1 q d = .inl e0 := by unfold sTr1; rw [h1]; rfl
        refine V_iload_2 d_gr_readTraits_4 ?_
        refine V_bipush 6 d_gr_readTraits_5 (by decide) ?_
        refine V_icmp_ge 103 d_gr_readTraits_7 (by decide) (by omega) (by omega) (fun c7 => by omega) (fun c7 => ?_)
        refine V_iload_1 d_gr_readTraits_10 ?_
        refine V_if_eq 103 d_gr_readTraits_11 (by decide) (by omega) (fun c11 => by omega) (fun c11 => ?_)
        refine V_aload_0 d_gr_readTraits_14 ?_
        refine V_iconst 0 d_gr_readTraits_15 ?_
        refine V_cvI1 d_gr_readTraits_16 ml_gr_91 mv_gr_readNewName (by decide) (Nat.le_of_ble_eq_true rfl) is_gr (okn) ?_
        rintro x3 F3 hx3
        obtain ⟨rfl, hz3⟩ := cS.il hT1 hx3 h1
        refine V_if_eq 66 d_gr_readTraits_19 (by decide) (by omega) (fun c19 => ?_) (fun c19 => by omega)
        exact KF F3 t _ (by rw [hsr e0 hs]; exact hz3)
      | inr s =>
        obtain ⟨S2, q2, d2⟩ := s
        have hs : sTr1 T N t S1 q d = sTr2 T N t S2 q2 d2 := by unfold sTr1; rw [h1]; rfl
        obtain ⟨hW2, hc2⟩ := sNew_W hW1 (by decide) hroom hp1.2.1 h1
        have h20 : S2 1 0 = t + 1 := by rw [hc2 0, if_pos rfl, h10]
        refine V_iload_2 d_gr_readTraits_4 ?_
        refine V_bipush 6 d_gr_readTraits_5 (by decide) ?_
        refine V_icmp_ge 103 d_gr_readTraits_7 (by decide) (by omega) (by omega) (fun c7 => by omega) (fun c7 => ?_)
        refine V_iload_1 d_gr_readTraits_10 ?_
        refine V_if_eq 103 d_gr_readTraits_11 (by decide) (by omega) (fun c11 => by omega) (fun c11 => ?_)
        refine V_aload_0 d_gr_readTraits_14 ?_
        refine V_iconst 0 d_gr_readTraits_15 ?_
        refine V_cvI1 d_gr_readTraits_16 ml_gr_91 mv_gr_readNewName (by decide) (Nat.le_of_ble_eq_true rfl) is_gr (okn) ?_
        rintro x3 F3 hx3
        obtain ⟨rfl, hT3⟩ := cS.in hT1 hx3 h1
        refine V_if_eq 66 d_gr_readTraits_19 (by decide) (by omega) (fun c19 => by omega) (fun c19 => ?_)
        exact K22 F3 S2 q2 d2 _ hT3 hW2 h20 hs
  refine V_iconst 1 d_gr_readTraits_0 ?_
  refine V_istore_1 d_gr_readTraits_1 rfl ?_
  refine V_iconst 0 d_gr_readTraits_2 ?_
  refine V_istore_2 d_gr_readTraits_3 rfl ?_
  exact loop 6 _ f S p e _ (by decide) (by decide) (cT.refl hC) hW h0 hr
theorem ok_begin (hh : q_G h) {L : List Int} (hC : cM h f S T N p e L) (hW : pW S) (hne : ¬ wd T N p e = -1) (h2 : f 1 2 = p) (h7 : f 1 7 = le T N p) {k : Int} (hk : 0 ≤ k ∧ k < 7) : OkI D m_gr_begin [vr D 3, vi k] (Zg g h) f (fun x f' => cO f f' T N x (if S 1 k < mst k then .inr (sk T N (le T N p), le T N p) else .inl (5, p))) := by
  have hp := hC.1.pr
  have hle := le_rg (T := T) hp.2.1
  refine OkB_of (L0 := [vr D 3, vi k]) mi_gr_begin rfl rfl (Nat.le_of_ble_eq_true rfl) (fun C hR => ?_)
  by_cases hr : S 1 k < mst k
  · rw [if_pos hr] at hR
    refine V_aload_0 d_gr_begin_0 ?_
    refine V_getR d_gr_begin_1 fl_gr_24 is_gr (r_gr_into hh) ?_
    refine V_iload_1 d_gr_begin_4 ?_
    refine V_cvI1 d_gr_begin_5 ml_gr_107 mv_gd_hasRoom (by decide) (Nat.le_of_ble_eq_true rfl) (is_gd hh) (ok_hasRoom hh hC.2.1 hW hk) ?_
    rintro x5 f2 ⟨hx5, e2⟩
    rw [e2]; clear e2 f2
    refine V_if_eq 21 d_gr_begin_8 (by decide) (by rcases hx5 with h | h <;> omega) (fun c8 => ?_) (fun c8 => ?_)
    · skip
      exact absurd hr (q_b0 hx5 c8)
    · skip
      refine V_aload_0 d_gr_begin_11 ?_
      refine V_getR d_gr_begin_12 fl_gr_9 is_gr r_gr_tape ?_
      refine V_cvI0 d_gr_begin_15 ml_gr_76 mv_tp_takeWordHere (by decide) (Nat.le_of_ble_eq_true rfl) is_tp (ok_takeWordHere h7) ?_
      rintro x F ⟨hx, e2⟩
      rw [hx, e2]; clear hx e2 F
      refine V_goto 36 d_gr_begin_18 (by decide) ?_
      refine V_ireturn d_gr_begin_36 (hR _ _ (by decide) ?_)
      exact ⟨rfl, hC.1.to (cK.refl f).up.up (by rw [q_up_ne (Or.inr (by decide)), q_up_ne (Or.inr (by decide))]; exact hC.1.2.1) (by rw [q_up_ne (Or.inr (by decide)), q_up_eq]; omega) (by rw [q_up_ne (Or.inr (by decide)), q_up_eq]) (q_up_eq _ _ _ _) (by show -1 ≤ le T N p ∧ le T N p ≤ N; omega), by rw [q_up_ne (Or.inr (by decide)), q_up_ne (Or.inr (by decide))], by rw [q_up_ne (Or.inr (by decide)), q_up_ne (Or.inr (by decide))], (cK.refl f).up.up⟩
  · rw [if_neg hr] at hR
    refine V_aload_0 d_gr_begin_0 ?_
    refine V_getR d_gr_begin_1 fl_gr_24 is_gr (r_gr_into hh) ?_
    refine V_iload_1 d_gr_begin_4 ?_
    refine V_cvI1 d_gr_begin_5 ml_gr_107 mv_gd_hasRoom (by decide) (Nat.le_of_ble_eq_true rfl) (is_gd hh) (ok_hasRoom hh hC.2.1 hW hk) ?_
    rintro x5 f2 ⟨hx5, e2⟩
    rw [e2]; clear e2 f2
    refine V_if_eq 21 d_gr_begin_8 (by decide) (by rcases hx5 with h | h <;> omega) (fun c8 => ?_) (fun c8 => ?_)
    · skip
      refine V_aload_0 d_gr_begin_21 ?_
      refine V_getR d_gr_begin_22 fl_gr_9 is_gr r_gr_tape ?_
      refine V_iconst 5 d_gr_begin_25 ?_
      refine V_aload_0 d_gr_begin_26 ?_
      refine V_getR d_gr_begin_27 fl_gr_9 is_gr r_gr_tape ?_
      refine V_getI d_gr_begin_30 fl_gr_55 is_tp ?_
      rw [h2]
      refine V_cvI2 d_gr_begin_33 ml_gr_58 mv_tp_fail (by decide) (Nat.le_of_ble_eq_true rfl) is_tp (ok_tfail (by decide)) ?_
      rintro x f9 ⟨hx, e9⟩
      rw [hx, e9]; clear hx e9 f9
      refine V_ireturn d_gr_begin_36 (hR _ _ (by decide) ?_)
      exact ⟨rfl, by rw [q_up_ne (Or.inr (by decide)), q_up_eq], q_up_eq _ _ _ _, (cK.refl f).up.up⟩
    · skip
      exact absurd (q_b1 hx5 c8) hr
end STM6
