/-! the reference reads tests -/
def nQ : List Int → Int
  | [] => 0
  | x :: K => (if x = 16 ∨ x = 25 then 1 else 0) + nQ K
def isW (x : Int) : Prop := x = 14 ∨ x = 15 ∨ x = 16 ∨ x = 25
def mBf (f : q_F) (T : Int → Int) (N : Int) (e : Int × Int) : Prop := mpS f T N (.inl e) ∧ (0 ≤ f 219 48 ∧ f 219 48 ≤ 1700)
def tSt (f : q_F) (T : Int → Int) (N : Int) (F : Nat) (b : Bool) (n : Nat) (X : q_R (List Int × Int × Int)) : Prop := ∃ m K L o p e, m ≤ n ∧ tch T N F m b K L o p e = some X ∧ mR f T N K L o p e ∧ nQ K ≤ o ∧ o ≤ 6 ∧ (∀ x ∈ K, isW x)
def tSn (f : q_F) (T : Int → Int) (N : Int) (F n : Nat) (X : q_R (List Int × Int × Int)) : Prop := ∃ m K L o p e, m ≤ n ∧ tch T N F m false K L o p e = some X ∧ mR f T N K L o p e ∧ nQ K ≤ o ∧ o ≤ 6 ∧ (∀ x ∈ K, isW x) ∧ topN isN K
section RT1
variable {D : q_D} {f f' : q_F} {A : q_As} {g h : Int} {T : Int → Int} {N p e : Int} {F : Nat}
theorem nQ_rg : ∀ K : List Int, 0 ≤ nQ K := by
  intro K
  induction K with
  | nil => exact Int.le_refl _
  | cons x K ih => unfold nQ; split <;> omega
theorem topN_ar {K : List Int} (h : ∀ x ∈ K, isW x) : topN isAr K := fun x K' e => by
  have := h x (by rw [e]; exact List.mem_cons_self ..)
  unfold isW at this
  unfold isAr; rw [decide_eq_false_iff_not]; omega
def factP (f' : q_F) (T : Int → Int) (N : Int) (K : List Int) (o : Int) (X : q_R (List Int × Int × Int)) : Prop := match X with
  | .inl e0 => mBf f' T N e0
  | .inr s => mR f' T N K s.1 o s.2.1 s.2.2
theorem ok_fact {K L : List Int} {o : Int} {r : q_R (List Int × Int × Int)} (hM : mR f T N K L o p e) (ho : 0 ≤ o ∧ o ≤ 6) (ht0 : topN isAr K) (hw : mW f) (hr : fct T N F o p e = some r) : OkV D m_mo_fact [vr D 219] (Zg g h) f (fun f' => factP f' T N K o (rpre L r) ∧ mQ f f') := by
  have hrg := hM.rg
  unfold fct at hr
  refine OkV_of (L0 := [vr D 219, vu]) mi_mo_fact rfl rfl (Nat.le_of_ble_eq_true rfl) (fun C hR => ?_)
  by_cases h19 : wd T N p e = 19
  · rw [if_pos h19] at hr
    cases hr
    have hge := wd_ge (T := T) (N := N) (p := p) (e := e) hrg.2.1 (by omega)
    refine V_aload_0 d_mo_fact_0 ?_
    refine V_aload_0 d_mo_fact_1 ?_
    refine V_getR d_mo_fact_2 fl_mo_75 is_mo r_mo_allWord ?_
    refine V_cvI1 d_mo_fact_5 ml_mo_212 mv_mo_takes (by decide) (Nat.le_of_ble_eq_true rfl) is_mo (ok_tkA hM.1 hw 19 (by decide) rfl) ?_
    rintro x F2 ⟨k2, hx⟩
    obtain ⟨rfl, -, t2⟩ := hx.resolve_right (fun h => h.2.1 (by rw [h19]; rfl))
    have hM2 := hM.mk k2 t2 (by omega)
    refine V_if_eq 18 d_mo_fact_8 (by decide) (by omega) (fun c8 => by omega) (fun c8 => ?_)
    refine V_aload_0 d_mo_fact_11 ?_
    refine V_bipush 17 d_mo_fact_12 (by decide) ?_
    refine V_cvV1 d_mo_fact_14 ml_mo_347 mv_mo_code (by decide) (Nat.le_of_ble_eq_true rfl) is_mo (ok_code hM2.2.2.1 (by omega)) ?_
    rintro F3 ⟨c3, k3⟩
    refine V_return d_mo_fact_17 (hR _ ?_)
    refine ⟨⟨hM2.1.fr (fun j k hj => k3 j k (by omega) (by omega)), hM2.2.1.fr (fun j k hj => k3 j k (by omega) (by omega)), c3, by rw [k3 _ _ (by decide) (by decide)]; exact hM2.2.2.2.1, ?_⟩, k2.q.tr (fun j k a b c => k3 j k b (by omega))⟩
    rw [List.length_append, List.length_cons, List.length_nil]; push_cast
    show _ ≤ sk T N (le T N p)
    omega
  · rw [if_neg h19] at hr
    have tk : OkI D m_mo_takes [vr D 219, vr D 240] (Zg g h) f (fun x f' => x = 0 ∧ mpS f' T N (.inr (p, e)) ∧ mK f f') := by
      refine (ok_tkA hM.1 hw 19 (by decide) rfl).mn (fun x f' hx => ?_)
      obtain ⟨h1, h2⟩ := hx
      obtain ⟨a, b, c, d⟩ := h2.resolve_left (fun h => h19 (by rw [h.2.1]; rfl))
      exact ⟨a, c, h1⟩
    rcases ob_cases hr with ⟨e0, h1, h2⟩ | ⟨c1, q1, r1, h1, h2⟩
    · subst h2
      refine V_aload_0 d_mo_fact_0 ?_
      refine V_aload_0 d_mo_fact_1 ?_
      refine V_getR d_mo_fact_2 fl_mo_75 is_mo r_mo_allWord ?_
      refine V_cvI1 d_mo_fact_5 ml_mo_212 mv_mo_takes (by decide) (Nat.le_of_ble_eq_true rfl) is_mo (tk) ?_
      rintro x F2 ⟨rfl, t2, k2⟩
      have hM2 := hM.mk k2 t2 (Int.le_refl _)
      refine V_if_eq 18 d_mo_fact_8 (by decide) (by omega) (fun c8 => ?_) (fun c8 => by omega)
      refine V_aload_0 d_mo_fact_18 ?_
      refine V_cvV0 d_mo_fact_19 ml_mo_286 mv_mo_sumsTold (by decide) (Nat.le_of_ble_eq_true rfl) is_mo (ok_sumsTold hM2 ho ht0 (hw.mk k2) h1) ?_
      rintro F3 ⟨s3, q3⟩
      have s3 : mBd F3 T N e0 := s3
      have b3 := s3.1.2.2.2
      refine V_aload_0 d_mo_fact_22 ?_
      refine V_getI d_mo_fact_23 fl_mo_185 is_mo ?_
      rw [b3.1]
      refine V_if_eq 30 d_mo_fact_26 (by decide) (by omega) (fun c26 => by omega) (fun c26 => ?_)
      refine V_return d_mo_fact_29 (hR _ ?_)
      exact ⟨⟨s3.1, by have := s3.2; omega⟩, k2.q.tr q3⟩
    · by_cases hs : lk T N q1 = 60 ∨ lk T N q1 = 62 ∨ lk T N q1 = 61
      · rw [if_pos hs] at h2
        have hqN : q1 < N := by rcases hs with hs | hs | hs <;> exact (lk_of (by decide) hs).1
        have hsk := sk_ge (T := T) hqN
        have K63 : ∀ (F4 : q_F), mR F4 T N K (L ++ c1) o q1 r1 → F4 219 2 = q1 → mQ f F4 → V D C m_mo_fact 63 [vr D 219, vi (lk T N q1)] [] (Zg g h) F4 := by
          intro F4 hM4 e4 q4
          have hrg4 := hM4.rg
          have hlk4 := lk_rg hM4.1.1 hrg4.1
          have t5 : mpS (q_up F4 219 2 (q1 + 1)) T N (.inr (sk T N (q1 + 1), r1)) := hM4.1.next (by omega) rfl
          have hM5 : mR (q_up F4 219 2 (q1 + 1)) T N K (L ++ c1) o (sk T N (q1 + 1)) r1 := hM4.mk ((mK.refl F4).up (by decide)) t5 (by omega)
          have q5 : mQ f (q_up F4 219 2 (q1 + 1)) := q4.tr ((mK.refl F4).up (by decide)).q
          have K102 : ∀ (F6 : q_F) (c : Int) (r2 : q_R (List Int × Int × Int)), rd T N F 3 o (sk T N (q1 + 1)) r1 = some r2 → sumP F6 T N K o (rpre (L ++ c1) r2) → mQ f F6 → c = (if lk T N q1 = 60 then 11 else if lk T N q1 = 62 then 12 else 13) → V D C m_mo_fact 102 [vr D 219, vi (lk T N q1)] [vi c, vr D 219] (Zg g h) F6 := by
            intro F6 c r2 h3 s6 q6 hc
            rw [h3] at h2
            cases r2 with
            | inl e0 =>
              cases h2
              have s6 : mBd F6 T N e0 := s6
              refine V_cvV1 d_mo_fact_102 ml_mo_347 mv_mo_code (by decide) (Nat.le_of_ble_eq_true rfl) is_mo (ok_codeB s6.2) ?_
              rintro F7 ⟨c7, k7⟩
              refine V_return d_mo_fact_105 (hR _ ?_)
              refine ⟨⟨s6.1.fr (fun j k hj => k7 j k (by omega) (by omega)), ?_⟩, q6.tr (fun j k a b c => k7 j k b (by omega))⟩
              have := s6.2
              omega
            | inr s =>
              obtain ⟨c2, q2, r2⟩ := s
              cases h2
              have hl3 := rd_len F 3 _ _ _ _ _ _ hsk.2 h3
              have s6 : mR F6 T N K ((L ++ c1) ++ c2) o q2 r2 := s6
              have hrg6 := s6.rg
              have hlen : ((((L ++ c1) ++ c2).length : Nat) : Int) = ((L ++ c1).length : Int) + c2.length := by rw [List.length_append]; push_cast; rfl
              refine V_cvV1 d_mo_fact_102 ml_mo_347 mv_mo_code (by decide) (Nat.le_of_ble_eq_true rfl) is_mo (ok_code s6.2.2.1 (by omega)) ?_
              rintro F7 ⟨c7, k7⟩
              refine V_return d_mo_fact_105 (hR _ ?_)
              refine ⟨⟨s6.1.fr (fun j k hj => k7 j k (by omega) (by omega)), s6.2.1.fr (fun j k hj => k7 j k (by omega) (by omega)), ?_, by rw [k7 _ _ (by decide) (by decide)]; exact s6.2.2.2.1, ?_⟩, q6.tr (fun j k a b c => k7 j k b (by omega))⟩
              · rw [hc] at c7
                show rcS F7 (L ++ (c1 ++ (c2 ++ [_])))
                rw [← List.append_assoc, ← List.append_assoc]; exact c7
              · show ((L ++ (c1 ++ (c2 ++ [_]))).length : Int) + K.length ≤ q2
                rw [← List.append_assoc, ← List.append_assoc, List.length_append, List.length_cons, List.length_nil]
                have := hM4.2.2.2.2
                push_cast; omega
          cases h3 : rd T N F 3 o (sk T N (q1 + 1)) r1 with
          | none => rw [h3] at h2; cases h2
          | some r2 =>
            refine V_aload_0 d_mo_fact_63 ?_
            refine V_dup d_mo_fact_64 rfl ?_
            refine V_getI d_mo_fact_65 fl_mo_191 is_mo ?_
            rw [e4]
            refine V_iconst 1 d_mo_fact_68 ?_
            refine V_iadd d_mo_fact_69 ?_
            refine V_putI d_mo_fact_70 fl_mo_191 is_mo ?_
            refine V_aload_0 d_mo_fact_73 ?_
            refine V_cvV0 d_mo_fact_74 ml_mo_286 mv_mo_sumsTold (by decide) (Nat.le_of_ble_eq_true rfl) is_mo (ok_sumsTold hM5 ho ht0 (hw.q q5) h3) ?_
            rintro F6 ⟨s6, q6⟩
            refine V_aload_0 d_mo_fact_77 ?_
            refine V_iload_1 d_mo_fact_78 ?_
            refine V_bipush 60 d_mo_fact_79 (by decide) ?_
            refine V_icmp_ne 89 d_mo_fact_81 (by decide) (by omega) (by omega) (fun c81 => ?_) (fun c81 => ?_)
            · skip
              refine V_iload_1 d_mo_fact_89 ?_
              refine V_bipush 62 d_mo_fact_90 (by decide) ?_
              refine V_icmp_ne 100 d_mo_fact_92 (by decide) (by omega) (by omega) (fun c92 => ?_) (fun c92 => ?_)
              · skip
                refine V_bipush 13 d_mo_fact_100 (by decide) ?_
                exact K102 F6 _ r2 h3 s6 (q5.tr q6) (by rw [if_neg c81, if_neg c92])
              · skip
                refine V_bipush 12 d_mo_fact_95 (by decide) ?_
                refine V_goto 102 d_mo_fact_97 (by decide) ?_
                exact K102 F6 _ r2 h3 s6 (q5.tr q6) (by rw [if_neg c81, if_pos (by omega)])
            · skip
              refine V_bipush 11 d_mo_fact_84 (by decide) ?_
              refine V_goto 102 d_mo_fact_86 (by decide) ?_
              exact K102 F6 _ r2 h3 s6 (q5.tr q6) (by rw [if_pos (by omega)])
        refine V_aload_0 d_mo_fact_0 ?_
        refine V_aload_0 d_mo_fact_1 ?_
        refine V_getR d_mo_fact_2 fl_mo_75 is_mo r_mo_allWord ?_
        refine V_cvI1 d_mo_fact_5 ml_mo_212 mv_mo_takes (by decide) (Nat.le_of_ble_eq_true rfl) is_mo (tk) ?_
        rintro x F2 ⟨rfl, t2, k2⟩
        have hM2 := hM.mk k2 t2 (Int.le_refl _)
        refine V_if_eq 18 d_mo_fact_8 (by decide) (by omega) (fun c8 => ?_) (fun c8 => by omega)
        refine V_aload_0 d_mo_fact_18 ?_
        refine V_cvV0 d_mo_fact_19 ml_mo_286 mv_mo_sumsTold (by decide) (Nat.le_of_ble_eq_true rfl) is_mo (ok_sumsTold hM2 ho ht0 (hw.mk k2) h1) ?_
        rintro F3 ⟨s3, q3⟩
        have s3 : mR F3 T N K (L ++ c1) o q1 r1 := s3
        have b3 := s3.1.2.2.2.1
        have hM4 : mR (q_up F3 219 2 q1) T N K (L ++ c1) o q1 r1 := s3.mk ((mK.refl F3).up (by decide)) s3.1.pl (Int.le_refl _)
        have q4 : mQ f (q_up F3 219 2 q1) := (k2.q.tr q3).tr ((mK.refl F3).up (by decide)).q
        have hlk4 := lk_rg s3.1.1 s3.rg.1
        refine V_aload_0 d_mo_fact_22 ?_
        refine V_getI d_mo_fact_23 fl_mo_185 is_mo ?_
        rw [b3]
        refine V_if_eq 30 d_mo_fact_26 (by decide) (by omega) (fun c26 => ?_) (fun c26 => by omega)
        refine V_aload_0 d_mo_fact_30 ?_
        refine V_cvI0 d_mo_fact_31 ml_mo_197 mv_mo_look (by decide) (Nat.le_of_ble_eq_true rfl) is_mo (ok_look s3.1) ?_
        rintro _ f2 ⟨rfl, e2⟩
        rw [e2]; clear e2 f2
        refine V_istore_1 d_mo_fact_34 rfl ?_
        refine V_iload_1 d_mo_fact_35 ?_
        refine V_bipush 60 d_mo_fact_36 (by decide) ?_
        refine V_icmp_eq 63 d_mo_fact_38 (by decide) (by omega) (by omega) (fun c38 => ?_) (fun c38 => ?_)
        · skip
          exact K63 _ hM4 (q_up_eq _ _ _ _) q4
        · skip
          refine V_iload_1 d_mo_fact_41 ?_
          refine V_bipush 62 d_mo_fact_42 (by decide) ?_
          refine V_icmp_eq 63 d_mo_fact_44 (by decide) (by omega) (by omega) (fun c44 => ?_) (fun c44 => ?_)
          · skip
            exact K63 _ hM4 (q_up_eq _ _ _ _) q4
          · skip
            refine V_iload_1 d_mo_fact_47 ?_
            refine V_bipush 61 d_mo_fact_48 (by decide) ?_
            refine V_icmp_eq 63 d_mo_fact_50 (by decide) (by omega) (by omega) (fun c50 => ?_) (fun c50 => ?_)
            · skip
              exact K63 _ hM4 (q_up_eq _ _ _ _) q4
            · skip
              exact absurd hs (fun h => h.elim c38 (fun h => h.elim c44 c50))
      · rw [if_neg hs] at h2
        cases h2
        refine V_aload_0 d_mo_fact_0 ?_
        refine V_aload_0 d_mo_fact_1 ?_
        refine V_getR d_mo_fact_2 fl_mo_75 is_mo r_mo_allWord ?_
        refine V_cvI1 d_mo_fact_5 ml_mo_212 mv_mo_takes (by decide) (Nat.le_of_ble_eq_true rfl) is_mo (tk) ?_
        rintro x F2 ⟨rfl, t2, k2⟩
        have hM2 := hM.mk k2 t2 (Int.le_refl _)
        refine V_if_eq 18 d_mo_fact_8 (by decide) (by omega) (fun c8 => ?_) (fun c8 => by omega)
        refine V_aload_0 d_mo_fact_18 ?_
        refine V_cvV0 d_mo_fact_19 ml_mo_286 mv_mo_sumsTold (by decide) (Nat.le_of_ble_eq_true rfl) is_mo (ok_sumsTold hM2 ho ht0 (hw.mk k2) h1) ?_
        rintro F3 ⟨s3, q3⟩
        have s3 : mR F3 T N K (L ++ c1) o q1 r1 := s3
        have b3 := s3.1.2.2.2.1
        have hM4 : mR (q_up F3 219 2 q1) T N K (L ++ c1) o q1 r1 := s3.mk ((mK.refl F3).up (by decide)) s3.1.pl (Int.le_refl _)
        have q4 : mQ f (q_up F3 219 2 q1) := (k2.q.tr q3).tr ((mK.refl F3).up (by decide)).q
        have hlk4 := lk_rg s3.1.1 s3.rg.1
        refine V_aload_0 d_mo_fact_22 ?_
        refine V_getI d_mo_fact_23 fl_mo_185 is_mo ?_
        rw [b3]
        refine V_if_eq 30 d_mo_fact_26 (by decide) (by omega) (fun c26 => ?_) (fun c26 => by omega)
        refine V_aload_0 d_mo_fact_30 ?_
        refine V_cvI0 d_mo_fact_31 ml_mo_197 mv_mo_look (by decide) (Nat.le_of_ble_eq_true rfl) is_mo (ok_look s3.1) ?_
        rintro _ f2 ⟨rfl, e2⟩
        rw [e2]; clear e2 f2
        refine V_istore_1 d_mo_fact_34 rfl ?_
        refine V_iload_1 d_mo_fact_35 ?_
        refine V_bipush 60 d_mo_fact_36 (by decide) ?_
        refine V_icmp_eq 63 d_mo_fact_38 (by decide) (by omega) (by omega) (fun c38 => ?_) (fun c38 => ?_)
        · skip
          exact absurd (Or.inl c38) hs
        · skip
          refine V_iload_1 d_mo_fact_41 ?_
          refine V_bipush 62 d_mo_fact_42 (by decide) ?_
          refine V_icmp_eq 63 d_mo_fact_44 (by decide) (by omega) (by omega) (fun c44 => ?_) (fun c44 => ?_)
          · skip
            exact absurd (Or.inr (Or.inl c44)) hs
          · skip
            refine V_iload_1 d_mo_fact_47 ?_
            refine V_bipush 61 d_mo_fact_48 (by decide) ?_
            refine V_icmp_eq 63 d_mo_fact_50 (by decide) (by omega) (by omega) (fun c50 => ?_) (fun c50 => ?_)
            · skip
              exact absurd (Or.inr (Or.inr c50)) hs
            · skip
              refine V_aload_0 d_mo_fact_53 ?_
              refine V_iconst 1 d_mo_fact_54 ?_
              refine V_aload_0 d_mo_fact_55 ?_
              refine V_getI d_mo_fact_56 fl_mo_191 is_mo ?_
              rw [q_up_eq]
              refine V_cvV2 d_mo_fact_59 ml_mo_215 mv_mo_fail (by decide) (Nat.le_of_ble_eq_true rfl) is_mo (ok_mfail hM4.1 (by decide)) ?_
              rintro F5 ⟨t5, k5⟩
              refine V_return d_mo_fact_62 (hR _ ?_)
              refine ⟨⟨t5, ?_⟩, q4.tr k5.q⟩
              have := hM4.bd
              rw [k5 _ _ (by decide)]; omega
theorem ok_dropsNotsB {e0 : Int × Int} (hB : mpS f T N (.inl e0)) : OkV D m_mo_dropsNots [vr D 219] (Zg g h) f (fun f' => f' = f) := by
  have hb := hB.2.2.2
  refine OkV_of (L0 := [vr D 219]) mi_mo_dropsNots rfl rfl (Nat.le_of_ble_eq_true rfl) (fun C hR => ?_)
  refine V_aload_0 d_mo_dropsNots_0 ?_
  refine V_getI d_mo_dropsNots_1 fl_mo_185 is_mo ?_
  rw [hb.1]
  refine V_if_ne 33 d_mo_dropsNots_4 (by decide) (by omega) (fun c4 => ?_) (fun c4 => by omega)
  refine V_return d_mo_dropsNots_33 (hR _ ?_)
  exact rfl
theorem ok_dropsNots {n : Nat} {X : q_R (List Int × Int × Int)} (hSt : tSt f T N F false n X) : OkV D m_mo_dropsNots [vr D 219] (Zg g h) f (fun f' => tSn f' T N F n X ∧ mQ f f') := by
  refine OkV_of (L0 := [vr D 219]) mi_mo_dropsNots rfl rfl (Nat.le_of_ble_eq_true rfl) (fun C hR => ?_)
  have loop : ∀ (K L : List Int) (m : Nat) (o p e : Int) (F2 : q_F), m ≤ n → tch T N F m false K L o p e = some X → mR F2 T N K L o p e → nQ K ≤ o → o ≤ 6 → (∀ x ∈ K, isW x) → mQ f F2 → V D C m_mo_dropsNots 0 [vr D 219] [] (Zg g h) F2 := by
    intro K
    induction K with
    | nil =>
      intro L m o p e F2 hm hch hM ho ho6 hW hq
      have hb := hM.1.2.2.2.1
      refine V_aload_0 d_mo_dropsNots_0 ?_
      refine V_getI d_mo_dropsNots_1 fl_mo_185 is_mo ?_
      rw [hb]
      refine V_if_ne 33 d_mo_dropsNots_4 (by decide) (by omega) (fun c4 => by omega) (fun c4 => ?_)
      refine V_aload_0 d_mo_dropsNots_7 ?_
      refine V_bipush 16 d_mo_dropsNots_8 (by decide) ?_
      refine V_cvI1 d_mo_dropsNots_10 ml_mo_365 mv_mo_isOn (by decide) (Nat.le_of_ble_eq_true rfl) is_mo (ok_isOn hM.2.1 (by simp) (by decide)) ?_
      rintro x10 f2 ⟨hx10, e2⟩
      rw [e2]; clear e2 f2
      refine V_if_eq 33 d_mo_dropsNots_13 (by decide) (by rcases hx10 with h | h <;> omega) (fun c13 => ?_) (fun c13 => ?_)
      · skip
        refine V_return d_mo_dropsNots_33 (hR _ ?_)
        exact ⟨⟨m, [], L, o, p, e, hm, hch, hM, ho, ho6, hW, fun x K' h => by cases h⟩, hq⟩
      · skip
        obtain ⟨K', h⟩ := q_b1 hx10 c13
        cases h
    | cons x K ih =>
      intro L m o p e F2 hm hch hM ho ho6 hW hq
      have hb := hM.1.2.2.2.1
      have hrg := hM.rg
      have hlen : ((x :: K).length : Int) = (K.length : Int) + 1 := by rw [List.length_cons]; push_cast; rfl
      by_cases hx : x = 16
      · subst hx
        have hnq : nQ (16 :: K) = 1 + nQ K := by show (if (16 : Int) = 16 ∨ (16 : Int) = 25 then (1 : Int) else 0) + nQ K = _; rw [if_pos (Or.inl rfl)]
        have hnr := nQ_rg K
        cases m with
        | zero => cases hch
        | succ m =>
          rw [tch_N] at hch
          have w1 : wS (q_up F2 219 51 (o - 1)) (16 :: K) := hM.2.1.fr (fun j k hj => q_up_ne (by omega))
          have c1 : rcS (q_up F2 219 51 (o - 1)) L := hM.2.2.1.fr (fun j k hj => q_up_ne (by omega))
          refine V_aload_0 d_mo_dropsNots_0 ?_
          refine V_getI d_mo_dropsNots_1 fl_mo_185 is_mo ?_
          rw [hb]
          refine V_if_ne 33 d_mo_dropsNots_4 (by decide) (by omega) (fun c4 => by omega) (fun c4 => ?_)
          refine V_aload_0 d_mo_dropsNots_7 ?_
          refine V_bipush 16 d_mo_dropsNots_8 (by decide) ?_
          refine V_cvI1 d_mo_dropsNots_10 ml_mo_365 mv_mo_isOn (by decide) (Nat.le_of_ble_eq_true rfl) is_mo (ok_isOn hM.2.1 (by omega) (by decide)) ?_
          rintro x10 f2 ⟨hx10, e2⟩
          rw [e2]; clear e2 f2
          refine V_if_eq 33 d_mo_dropsNots_13 (by decide) (by rcases hx10 with h | h <;> omega) (fun c13 => ?_) (fun c13 => ?_)
          · skip
            exact absurd ⟨K, rfl⟩ (q_b0 hx10 c13)
          · skip
            refine V_aload_0 d_mo_dropsNots_16 ?_
            refine V_dup d_mo_dropsNots_17 rfl ?_
            refine V_getI d_mo_dropsNots_18 fl_mo_280 is_mo ?_
            rw [hM.2.2.2.1]
            refine V_iconst 1 d_mo_dropsNots_21 ?_
            refine V_isub d_mo_dropsNots_22 ?_
            refine V_putI d_mo_dropsNots_23 fl_mo_280 is_mo ?_
            refine V_aload_0 d_mo_dropsNots_26 ?_
            refine V_cvV0 d_mo_dropsNots_27 ml_mo_353 mv_mo_drops (by decide) (Nat.le_of_ble_eq_true rfl) is_mo (ok_drops w1 c1 (by omega) (by omega)) ?_
            rintro F3 ⟨w3, c3, k3⟩
            refine V_goto 0 d_mo_dropsNots_30 (by decide) ?_
            refine ih (L ++ [16]) m (o - 1) p e F3 (by omega) hch ⟨hM.1.fr (fun j k hj => by rw [k3 j k (by omega) (by omega), q_up_ne (by omega)]), w3, c3, by rw [k3 _ _ (by decide) (by decide), q_up_eq], ?_⟩ (by omega) (by omega) (fun y hy => hW y (List.mem_cons_of_mem _ hy)) (hq.tr (fun j k a b c => by rw [k3 j k b (by omega), q_up_ne (by omega)]))
            rw [List.length_append, List.length_cons, List.length_nil]; push_cast; omega
      · skip
        refine V_aload_0 d_mo_dropsNots_0 ?_
        refine V_getI d_mo_dropsNots_1 fl_mo_185 is_mo ?_
        rw [hb]
        refine V_if_ne 33 d_mo_dropsNots_4 (by decide) (by omega) (fun c4 => by omega) (fun c4 => ?_)
        refine V_aload_0 d_mo_dropsNots_7 ?_
        refine V_bipush 16 d_mo_dropsNots_8 (by decide) ?_
        refine V_cvI1 d_mo_dropsNots_10 ml_mo_365 mv_mo_isOn (by decide) (Nat.le_of_ble_eq_true rfl) is_mo (ok_isOn hM.2.1 (by omega) (by decide)) ?_
        rintro x10 f2 ⟨hx10, e2⟩
        rw [e2]; clear e2 f2
        refine V_if_eq 33 d_mo_dropsNots_13 (by decide) (by rcases hx10 with h | h <;> omega) (fun c13 => ?_) (fun c13 => ?_)
        · skip
          refine V_return d_mo_dropsNots_33 (hR _ ?_)
          exact ⟨⟨m, x :: K, L, o, p, e, hm, hch, hM, ho, ho6, hW, fun y K' h => by cases h; unfold isN; rw [decide_eq_false_iff_not]; exact hx⟩, hq⟩
        · skip
          obtain ⟨K', h⟩ := q_b1 hx10 c13
          cases h; exact absurd rfl hx
  obtain ⟨m, K, L, o, p, e, h1, h2, h3, h4, h5, h6⟩ := hSt
  exact loop K L m o p e f h1 h2 h3 h4 h5 h6 (mQ.refl f)
theorem ok_hasSquare {K : List Int} (hK : wS f K) (hn : (K.length : Int) ≤ 1600) : OkI D m_mo_hasSquare [vr D 219] (Zg g h) f (fun x f' => ((x = 1 ∧ 25 ∈ K) ∨ (x = 0 ∧ ¬ 25 ∈ K)) ∧ f' = f) := by
  refine OkB_of (L0 := [vr D 219, vu]) mi_mo_hasSquare rfl rfl (Nat.le_of_ble_eq_true rfl) (fun C hR => ?_)
  have h50 := hK.1
  have loop : ∀ (m i : Nat), i + m = K.length → (∀ j : Nat, j < i → ¬ K.getD (K.length - 1 - j) 0 = 25) → V D C m_mo_hasSquare 2 [vr D 219, vi i] [] (Zg g h) f := by
    intro m
    induction m with
    | zero =>
      intro i hi hj
      refine V_iload_1 d_mo_hasSquare_2 ?_
      refine V_aload_0 d_mo_hasSquare_3 ?_
      refine V_getI d_mo_hasSquare_4 fl_mo_277 is_mo ?_
      rw [h50]
      refine V_icmp_ge 29 d_mo_hasSquare_7 (by decide) (by omega) (by omega) (fun c7 => ?_) (fun c7 => by omega)
      refine V_iconst 0 d_mo_hasSquare_29 ?_
      refine V_ireturn d_mo_hasSquare_30 (hR _ _ (by decide) ?_)
      refine ⟨Or.inr ⟨rfl, fun hm => ?_⟩, rfl⟩
      obtain ⟨k, hk, e⟩ := List.mem_iff_getElem.mp hm
      refine hj (K.length - 1 - k) (by omega) ?_
      rw [show K.length - 1 - (K.length - 1 - k) = k by omega, List.getD_eq_getElem?_getD, List.getElem?_eq_getElem hk]
      exact e
    | succ m ih =>
      intro i hi hj
      have hget := hK.2.1 i (by omega)
      have hmem : K.getD (K.length - 1 - i) 0 ∈ K := by
        rw [List.getD_eq_getElem?_getD, List.getElem?_eq_getElem (by omega)]
        exact List.getElem_mem _
      have hr := hK.2.2 _ hmem
      refine V_iload_1 d_mo_hasSquare_2 ?_
      refine V_aload_0 d_mo_hasSquare_3 ?_
      refine V_getI d_mo_hasSquare_4 fl_mo_277 is_mo ?_
      rw [h50]
      refine V_icmp_ge 29 d_mo_hasSquare_7 (by decide) (by omega) (by omega) (fun c7 => by omega) (fun c7 => ?_)
      refine V_aload_0 d_mo_hasSquare_10 ?_
      refine V_getR d_mo_hasSquare_11 fl_mo_124 is_mo r_mo_wait ?_
      refine V_iload_1 d_mo_hasSquare_14 ?_
      refine V_iald d_mo_hasSquare_15 is_mo_wait (by omega) (by omega) ?_
      rw [hget]
      refine V_bipush 25 d_mo_hasSquare_16 (by decide) ?_
      refine V_icmp_ne 23 d_mo_hasSquare_18 (by decide) (by omega) (by omega) (fun c18 => ?_) (fun c18 => ?_)
      · skip
        refine V_iinc_1 d_mo_hasSquare_23 rfl ?_
        refine V_goto 2 d_mo_hasSquare_26 (by decide) ?_
        exact ih (i + 1) (by omega) (fun j hj2 => by
          by_cases e : j = i
          · rw [e]; exact c18
          · exact hj j (by omega))
      · skip
        refine V_iconst 1 d_mo_hasSquare_21 ?_
        refine V_ireturn d_mo_hasSquare_22 (hR _ _ (by decide) ?_)
        refine ⟨Or.inl ⟨rfl, ?_⟩, rfl⟩
        have : K.getD (K.length - 1 - i) 0 = 25 := by omega
        rw [this] at hmem; exact hmem
  refine V_iconst 0 d_mo_hasSquare_0 ?_
  refine V_istore_1 d_mo_hasSquare_1 rfl ?_
  exact loop K.length 0 (by omega) (fun j hj => by omega)
end RT1
