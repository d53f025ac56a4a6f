/-! the reference reads tests: behind a fact; whole tests -/
def tEnd (f' : q_F) (T : Int → Int) (N : Int) (X : q_R (List Int × Int × Int)) : Prop := ∃ K L o p e, X = .inr (L ++ K, p, e) ∧ mR f' T N K L o p e
section RT2
variable {D : q_D} {f f' : q_F} {A : q_As} {g h : Int} {T : Int → Int} {N p e : Int} {F : Nat}
theorem isN_16 {x : Int} : isN x = true ↔ x = 16 := by unfold isN; exact decide_eq_true_iff
theorem isA_14 {x : Int} : isA x = true ↔ x = 14 := by unfold isA; exact decide_eq_true_iff
theorem isO_1 {x : Int} : isO x = true ↔ x = 14 ∨ x = 15 := by unfold isO; exact decide_eq_true_iff
theorem nQ_dw {P : Int → Bool} (hP : ∀ x, P x = true → x = 14 ∨ x = 15) : ∀ K : List Int, nQ (K.dropWhile P) = nQ K := by
  intro K
  induction K with
  | nil => rfl
  | cons x K ih =>
    rw [List.dropWhile_cons]
    cases hp : P x
    · rfl
    · rw [if_pos rfl, ih]
      show _ = (if x = 16 ∨ x = 25 then 1 else 0) + nQ K
      have := hP x hp
      rw [if_neg (by omega)]; omega
/-- K is what stands ahead of the last square, and it, and the rest -/
theorem sq_split : ∀ K : List Int, 25 ∈ K → K = K.takeWhile noQ ++ 25 :: (K.dropWhile noQ).drop 1 := by
  intro K
  induction K with
  | nil => intro h; cases h
  | cons x K ih =>
    intro h
    by_cases hx : x = 25
    · subst hx
      rw [List.takeWhile_cons, List.dropWhile_cons, show noQ 25 = false from rfl]; rfl
    · have hn : noQ x = true := by unfold noQ; exact decide_eq_true hx
      rw [List.takeWhile_cons, List.dropWhile_cons, hn, if_pos rfl, if_pos rfl, List.cons_append, ← ih]
      rcases List.mem_cons.mp h with e | e
      · exact absurd e.symm hx
      · exact e
theorem nQ_app : ∀ U M : List Int, nQ (U ++ M) = nQ U + nQ M := by
  intro U
  induction U with
  | nil => intro M; show nQ M = 0 + nQ M; omega
  | cons x U ih => intro M; show (if x = 16 ∨ x = 25 then 1 else 0) + nQ (U ++ M) = (if x = 16 ∨ x = 25 then 1 else 0) + nQ U + nQ M; rw [ih]; omega
theorem tch_B0 {K L : List Int} {o p e : Int} : tch T N F 0 false K L o p e = none := rfl
/-- no not stands ahead of the last square but at the top -/
theorem ok_goesOnTest {n : Nat} {X : q_R (List Int × Int × Int)} (hSt : tSn f T N F n X) (hw : mW f) : OkI D m_mo_goesOnTest [vr D 219] (Zg g h) f (fun x f' => ((x = 1 ∧ tSt f' T N F true n X) ∨ (x = 0 ∧ ((∃ e0, X = .inl e0 ∧ mBf f' T N e0) ∨ tEnd f' T N X))) ∧ mQ f f') := by
  refine OkB_of (L0 := [vr D 219]) mi_mo_goesOnTest rfl rfl (Nat.le_of_ble_eq_true rfl) (fun C hR => ?_)
  have loop : ∀ (n2 : Nat) (F2 : q_F), n2 ≤ n → tSn F2 T N F n2 X → mQ f F2 → V D C m_mo_goesOnTest 0 [vr D 219] [] (Zg g h) F2 := by
    intro n2
    induction n2 with
    | zero =>
      intro F2 hn2 hSt
      obtain ⟨m, K, L, o, p, e, h1, h2, -⟩ := hSt
      have : m = 0 := by omega
      subst this
      rw [tch_B0] at h2; cases h2
    | succ n2 ih =>
      intro F2 hn2 hSt hq
      obtain ⟨m, K, L, o, p, e, hm, hch, hM, ho, ho6, hW, tN⟩ := hSt
      cases m with
      | zero => rw [tch_B0] at hch; cases hch
      | succ m =>
        have hrg := hM.rg
        have hlk := lk_rg hM.1.1 hrg.1
        have hnr := nQ_rg K
        have hb5 := hM.1.2.2.2.1
        have hM1 : mR (q_up F2 219 2 p) T N K L o p e := hM.mk ((mK.refl F2).up (by decide)) hM.1.pl (Int.le_refl _)
        have hq1 : mQ f (q_up F2 219 2 p) := hq.tr ((mK.refl F2).up (by decide)).q
        have e1 : (q_up F2 219 2 p) 219 2 = p := q_up_eq _ _ _ _
        generalize hF1 : q_up F2 219 2 p = F1 at hM1 hq1 e1
        have okq := ok_hasSquare (D := D) (g := g) (h := h) hM1.2.1 (by omega)
        rw [tch_B tN] at hch
        by_cases hA : lk T N p = 93 ∧ 25 ∈ K
        · rw [if_pos hA] at hch
          have hpN := (lk_of (by decide) hA.1).1
          have hsk := sk_ge (T := T) hpN
          have hsp := sq_split K hA.2
          have hlenK : (K.length : Int) = (K.takeWhile noQ).length + 1 + ((K.dropWhile noQ).drop 1).length := by
            have := congrArg List.length hsp
            rw [List.length_append, List.length_cons] at this
            omega
          have hnq : nQ K = nQ (K.takeWhile noQ) + (1 + nQ ((K.dropWhile noQ).drop 1)) := by
            conv => lhs; rw [hsp]
            rw [nQ_app]; rfl
          have hnr2 := nQ_rg (K.takeWhile noQ)
          have hnr3 := nQ_rg ((K.dropWhile noQ).drop 1)
          have hWm : ∀ x ∈ (K.dropWhile noQ).drop 1, isW x := fun x hx => hW x (by rw [hsp]; exact List.mem_append_right _ (List.mem_cons_of_mem _ hx))
          have hUn : ∀ x ∈ K.takeWhile noQ, ¬ x = 25 := fun x hx => by
            have := tw_all noQ K x hx
            unfold noQ at this
            exact of_decide_eq_true this
          generalize hMM : (K.dropWhile noQ).drop 1 = M at *
          have K33 : ∀ (U L' : List Int) (F3 : q_F), (∀ x ∈ U, ¬ x = 25) → wS F3 (U ++ 25 :: M) → rcS F3 L' → mpS F3 T N (.inr (sk T N (p + 1), e)) → F3 219 51 = o → (L'.length : Int) + (U ++ 25 :: M).length ≤ p → L' ++ U = L ++ K.takeWhile noQ → mQ f F3 → V D C m_mo_goesOnTest 33 [vr D 219] [] (Zg g h) F3 := by
            intro U
            induction U with
            | nil =>
              intro L' F3 hU w3 c3 t3 o3 l3 heq q3
              rw [List.nil_append] at w3 l3
              rw [List.append_nil] at heq
              obtain ⟨g1, g2, g3⟩ := w3.top
              have l3' : (L'.length : Int) + ((M.length : Int) + 1) ≤ p := by rw [List.length_cons] at l3; push_cast at l3; omega
              have hM4 : mR (q_up (q_up F3 219 50 M.length) 219 51 (o - 1)) T N M L' (o - 1) (sk T N (p + 1)) e := ⟨t3.fr (fun j k hj => by rw [q_up_ne (by omega), q_up_ne (by omega)]), w3.pop (by rw [q_up_ne (Or.inr (by decide)), q_up_eq]) (fun k => by rw [q_up_at (by decide), q_up_at (by decide)]), c3.fr (fun j k hj => by rw [q_up_ne (by omega), q_up_ne (by omega)]), q_up_eq _ _ _ _, by omega⟩
              have q4 : mQ f (q_up (q_up F3 219 50 M.length) 219 51 (o - 1)) := q3.tr (fun j k a b c => by rw [q_up_ne (by omega), q_up_ne (by omega)])
              have hSt4 : tSt (q_up (q_up F3 219 50 M.length) 219 51 (o - 1)) T N F false n2 X := ⟨m, M, L', o - 1, _, _, by omega, by rw [heq]; exact hch, hM4, by omega, by omega, hWm⟩
              refine V_aload_0 d_mo_goesOnTest_33 ?_
              refine V_bipush 25 d_mo_goesOnTest_34 (by decide) ?_
              refine V_cvI1 d_mo_goesOnTest_36 ml_mo_365 mv_mo_isOn (by decide) (Nat.le_of_ble_eq_true rfl) is_mo (ok_isOn w3 (by rw [List.length_cons]; push_cast; omega) (by decide)) ?_
              rintro x36 f2 ⟨hx36, e2⟩
              rw [e2]; clear e2 f2
              refine V_if_ne 49 d_mo_goesOnTest_39 (by decide) (by rcases hx36 with h | h <;> omega) (fun c39 => ?_) (fun c39 => ?_)
              · skip
                refine V_aload_0 d_mo_goesOnTest_49 ?_
                refine V_dup d_mo_goesOnTest_50 rfl ?_
                refine V_getI d_mo_goesOnTest_51 fl_mo_277 is_mo ?_
                rw [g1]
                refine V_iconst 1 d_mo_goesOnTest_54 ?_
                refine V_isub d_mo_goesOnTest_55 ?_
                rw [show (M.length : Int) + 1 - 1 = M.length by omega]
                refine V_putI d_mo_goesOnTest_56 fl_mo_277 is_mo ?_
                refine V_aload_0 d_mo_goesOnTest_59 ?_
                refine V_dup d_mo_goesOnTest_60 rfl ?_
                refine V_getI d_mo_goesOnTest_61 fl_mo_280 is_mo ?_
                rw [q_up_ne (Or.inr (by decide)), o3]
                refine V_iconst 1 d_mo_goesOnTest_64 ?_
                refine V_isub d_mo_goesOnTest_65 ?_
                refine V_putI d_mo_goesOnTest_66 fl_mo_280 is_mo ?_
                refine V_aload_0 d_mo_goesOnTest_69 ?_
                refine V_cvV0 d_mo_goesOnTest_70 ml_mo_377 mv_mo_dropsNots (by decide) (Nat.le_of_ble_eq_true rfl) is_mo (ok_dropsNots hSt4) ?_
                rintro F5 ⟨s5, q5⟩
                refine V_goto 0 d_mo_goesOnTest_73 (by decide) ?_
                exact ih F5 (by omega) s5 (q4.tr q5)
              · skip
                exact absurd ⟨M, rfl⟩ (q_b0 hx36 c39)
            | cons x U ihU =>
              intro L' F3 hU w3 c3 t3 o3 l3 heq q3
              have w3' : wS F3 (x :: (U ++ 25 :: M)) := w3
              have l3' : (L'.length : Int) + ((U ++ 25 :: M).length + 1) ≤ p := by
                rw [List.cons_append, List.length_cons] at l3; push_cast at l3; omega
              refine V_aload_0 d_mo_goesOnTest_33 ?_
              refine V_bipush 25 d_mo_goesOnTest_34 (by decide) ?_
              refine V_cvI1 d_mo_goesOnTest_36 ml_mo_365 mv_mo_isOn (by decide) (Nat.le_of_ble_eq_true rfl) is_mo (ok_isOn w3' (by rw [List.length_cons]; push_cast; omega) (by decide)) ?_
              rintro x36 f2 ⟨hx36, e2⟩
              rw [e2]; clear e2 f2
              refine V_if_ne 49 d_mo_goesOnTest_39 (by decide) (by rcases hx36 with h | h <;> omega) (fun c39 => ?_) (fun c39 => ?_)
              · skip
                obtain ⟨K', h⟩ := q_b1 hx36 c39
                cases h; exact absurd rfl (hU 25 (List.mem_cons_self ..))
              · skip
                refine V_aload_0 d_mo_goesOnTest_42 ?_
                refine V_cvV0 d_mo_goesOnTest_43 ml_mo_353 mv_mo_drops (by decide) (Nat.le_of_ble_eq_true rfl) is_mo (ok_drops w3' c3 (by omega) (by omega)) ?_
                rintro F4 ⟨w4, c4, k4⟩
                refine V_goto 33 d_mo_goesOnTest_46 (by decide) ?_
                refine ihU (L' ++ [x]) F4 (fun y hy => hU y (List.mem_cons_of_mem _ hy)) w4 c4 (t3.fr (fun j k hj => k4 j k (by omega) (by omega))) (by rw [k4 _ _ (by decide) (by decide)]; exact o3) ?_ (by rw [← heq]; simp) (q3.tr (fun j k a b c => k4 j k b (by omega)))
                rw [List.length_append, List.length_cons, List.length_nil]; push_cast; omega
          refine V_aload_0 d_mo_goesOnTest_0 ?_
          refine V_getI d_mo_goesOnTest_1 fl_mo_185 is_mo ?_
          rw [hb5]
          refine V_if_ne 76 d_mo_goesOnTest_4 (by decide) (by omega) (fun c4 => by omega) (fun c4 => ?_)
          refine V_aload_0 d_mo_goesOnTest_7 ?_
          refine V_cvI0 d_mo_goesOnTest_8 ml_mo_197 mv_mo_look (by decide) (Nat.le_of_ble_eq_true rfl) is_mo (ok_look hM.1) ?_
          rintro _ f2 ⟨rfl, e2⟩
          rw [e2]; clear e2 f2
          rw [hF1]
          refine V_bipush 93 d_mo_goesOnTest_11 (by decide) ?_
          refine V_icmp_ne 76 d_mo_goesOnTest_13 (by decide) (by omega) (by omega) (fun c13 => by omega) (fun c13 => ?_)
          refine V_aload_0 d_mo_goesOnTest_16 ?_
          refine V_cvI0 d_mo_goesOnTest_17 ml_mo_383 mv_mo_hasSquare (by decide) (Nat.le_of_ble_eq_true rfl) is_mo (okq) ?_
          rintro x17 f2 ⟨hx17, e2⟩
          rw [e2]; clear e2 f2
          refine V_if_eq 76 d_mo_goesOnTest_20 (by decide) (by rcases hx17 with h | h <;> omega) (fun c20 => ?_) (fun c20 => ?_)
          · skip
            exact absurd hA.2 (q_b0 hx17 c20)
          · skip
            refine V_aload_0 d_mo_goesOnTest_23 ?_
            refine V_dup d_mo_goesOnTest_24 rfl ?_
            refine V_getI d_mo_goesOnTest_25 fl_mo_191 is_mo ?_
            rw [e1]
            refine V_iconst 1 d_mo_goesOnTest_28 ?_
            refine V_iadd d_mo_goesOnTest_29 ?_
            refine V_putI d_mo_goesOnTest_30 fl_mo_191 is_mo ?_
            refine K33 (K.takeWhile noQ) L _ hUn ?_ (hM1.2.2.1.fr (fun j k hj => q_up_ne (by omega))) (hM1.1.next (by decide) hA.1) (by rw [q_up_ne (Or.inr (by decide))]; exact hM1.2.2.2.1) ?_ rfl (hq1.tr ((mK.refl F1).up (by decide)).q)
            · rw [← hsp]; exact hM1.2.1.fr (fun j k hj => q_up_ne (by omega))
            · rw [← hsp]; omega
        · rw [if_neg hA] at hch
          have KP : ∀ (y : Int) (M : List Int) (L' : List Int) (F5 : q_F) (q d : Int), wS F5 M → rcS F5 L' → mpS F5 T N (.inr (q, d)) → F5 219 51 = o → (L'.length : Int) + M.length + 1 ≤ q → (y = 14 ∨ y = 15) → nQ M = nQ K → (∀ x ∈ M, isW x) → tch T N F m true (y :: M) L' o q d = some X → mQ f F5 → tSt (q_up (q_up F5 256 M.length y) 219 50 (M.length + 1)) T N F true n X ∧ mQ f (q_up (q_up F5 256 M.length y) 219 50 (M.length + 1)) := by
            intro y M L' F5 q d w5 c5 t5 o5 l5 hy hnM hWM hch5 q5
            refine ⟨⟨m, y :: M, L', o, q, d, by omega, hch5, ⟨t5.fr (fun j k hj => by rw [q_up_ne (by omega), q_up_at (by omega)]), w5.push (by omega) (q_up_eq _ _ _ _) (by rw [q_up_at (by decide), q_up_eq]) (fun k hk => by rw [q_up_at (by decide), q_up_ne (Or.inr hk)]), c5.fr (fun j k hj => by rw [q_up_ne (by omega), q_up_at (by omega)]), by rw [q_up_ne (Or.inr (by decide)), q_up_at (by decide)]; exact o5, ?_⟩, ?_, ho6, ?_⟩, q5.tr (fun j k a b c => by rw [q_up_ne (by omega), q_up_at c])⟩
            · rw [List.length_cons]; push_cast; omega
            · show (if y = 16 ∨ y = 25 then 1 else 0) + nQ M ≤ o
              rw [if_neg (by omega)]; omega
            · intro x hx
              rcases List.mem_cons.mp hx with e | e
              · rw [e]; unfold isW; omega
              · exact hWM x e
          have K87 : ∀ (U L' : List Int) (M : List Int) (F5 : q_F) (q d : Int), (∀ x ∈ U, isA x = true) → topN isA M → wS F5 (U ++ M) → rcS F5 L' → mpS F5 T N (.inr (q, d)) → F5 219 51 = o → (L'.length : Int) + (U ++ M).length + 1 ≤ q → nQ M = nQ K → (∀ x ∈ M, isW x) → tch T N F m true (14 :: M) (L' ++ U) o q d = some X → mQ f F5 → V D C m_mo_goesOnTest 87 [vr D 219] [] (Zg g h) F5 := by
            intro U
            induction U with
            | nil =>
              intro L' M F5 q d hU htp w5 c5 t5 o5 l5 hnM hWM hch5 q5
              have hq16 := t5.pr
              rw [List.nil_append] at w5 l5
              rw [List.append_nil] at hch5
              obtain ⟨s1, s2⟩ := KP 14 M L' F5 q d w5 c5 t5 o5 l5 (by decide) hnM hWM hch5 q5
              have hw50 := w5.1
              refine V_aload_0 d_mo_goesOnTest_87 ?_
              refine V_bipush 14 d_mo_goesOnTest_88 (by decide) ?_
              refine V_cvI1 d_mo_goesOnTest_90 ml_mo_365 mv_mo_isOn (by decide) (Nat.le_of_ble_eq_true rfl) is_mo (ok_isOn w5 (by omega) (by decide)) ?_
              rintro x90 f2 ⟨hx90, e2⟩
              rw [e2]; clear e2 f2
              refine V_if_eq 103 d_mo_goesOnTest_93 (by decide) (by rcases hx90 with h | h <;> omega) (fun c93 => ?_) (fun c93 => ?_)
              · skip
                refine V_aload_0 d_mo_goesOnTest_103 ?_
                refine V_getR d_mo_goesOnTest_104 fl_mo_124 is_mo r_mo_wait ?_
                refine V_aload_0 d_mo_goesOnTest_107 ?_
                refine V_getI d_mo_goesOnTest_108 fl_mo_277 is_mo ?_
                rw [hw50]
                refine V_bipush 14 d_mo_goesOnTest_111 (by decide) ?_
                refine V_iast d_mo_goesOnTest_113 is_mo_wait (by omega) (by omega) ?_
                refine V_aload_0 d_mo_goesOnTest_114 ?_
                refine V_dup d_mo_goesOnTest_115 rfl ?_
                refine V_getI d_mo_goesOnTest_116 fl_mo_277 is_mo ?_
                rw [q_up_at (by decide), hw50]
                refine V_iconst 1 d_mo_goesOnTest_119 ?_
                refine V_iadd d_mo_goesOnTest_120 ?_
                refine V_putI d_mo_goesOnTest_121 fl_mo_277 is_mo ?_
                refine V_iconst 1 d_mo_goesOnTest_124 ?_
                refine V_ireturn d_mo_goesOnTest_125 (hR _ _ (by decide) ?_)
                exact ⟨Or.inl ⟨rfl, s1⟩, s2⟩
              · skip
                exact absurd (q_b1 hx90 (by omega)) (topN_no htp (by decide))
            | cons x U ihU =>
              intro L' M F5 q d hU htp w5 c5 t5 o5 l5 hnM hWM hch5 q5
              have hq16 := t5.pr
              have hx := isA_14.mp (hU x (List.mem_cons_self ..))
              have w5' : wS F5 (x :: (U ++ M)) := w5
              have l5' : (L'.length : Int) + ((U ++ M).length + 1) + 1 ≤ q := by
                rw [List.cons_append, List.length_cons] at l5; push_cast at l5; omega
              have KD : V D C m_mo_goesOnTest 96 [vr D 219] [] (Zg g h) F5 := by
                refine V_aload_0 d_mo_goesOnTest_96 ?_
                refine V_cvV0 d_mo_goesOnTest_97 ml_mo_353 mv_mo_drops (by decide) (Nat.le_of_ble_eq_true rfl) is_mo (ok_drops w5' c5 (by omega) (by omega)) ?_
                rintro F6 ⟨w6, c6, k6⟩
                refine V_goto 87 d_mo_goesOnTest_100 (by decide) ?_
                refine ihU (L' ++ [x]) M F6 q d (fun z hz => hU z (List.mem_cons_of_mem _ hz)) htp w6 c6 (t5.fr (fun j k hj => k6 j k (by omega) (by omega))) (by rw [k6 _ _ (by decide) (by decide)]; exact o5) ?_ hnM hWM (by rw [List.append_assoc]; exact hch5) (q5.tr (fun j k a b c => k6 j k b (by omega)))
                rw [List.length_append, List.length_cons, List.length_nil]; push_cast; omega
              refine V_aload_0 d_mo_goesOnTest_87 ?_
              refine V_bipush 14 d_mo_goesOnTest_88 (by decide) ?_
              refine V_cvI1 d_mo_goesOnTest_90 ml_mo_365 mv_mo_isOn (by decide) (Nat.le_of_ble_eq_true rfl) is_mo (ok_isOn w5' (by simp only [List.length_cons]; push_cast; omega) (by decide)) ?_
              rintro x90 f2 ⟨hx90, e2⟩
              rw [e2]; clear e2 f2
              refine V_if_eq 103 d_mo_goesOnTest_93 (by decide) (by rcases hx90 with h | h <;> omega) (fun c93 => ?_) (fun c93 => ?_)
              · skip
                exact absurd ⟨_, by rw [hx]⟩ (q_b0 hx90 (by omega))
              · skip
                exact KD
          have K137 : ∀ (U L' : List Int) (M : List Int) (F5 : q_F) (q d : Int), (∀ x ∈ U, isO x = true) → topN isO M → wS F5 (U ++ M) → rcS F5 L' → mpS F5 T N (.inr (q, d)) → F5 219 51 = o → (L'.length : Int) + (U ++ M).length + 1 ≤ q → nQ M = nQ K → (∀ x ∈ M, isW x) → tch T N F m true (15 :: M) (L' ++ U) o q d = some X → mQ f F5 → V D C m_mo_goesOnTest 137 [vr D 219] [] (Zg g h) F5 := by
            intro U
            induction U with
            | nil =>
              intro L' M F5 q d hU htp w5 c5 t5 o5 l5 hnM hWM hch5 q5
              have hq16 := t5.pr
              rw [List.nil_append] at w5 l5
              rw [List.append_nil] at hch5
              obtain ⟨s1, s2⟩ := KP 15 M L' F5 q d w5 c5 t5 o5 l5 (by decide) hnM hWM hch5 q5
              have hw50 := w5.1
              refine V_aload_0 d_mo_goesOnTest_137 ?_
              refine V_bipush 14 d_mo_goesOnTest_138 (by decide) ?_
              refine V_cvI1 d_mo_goesOnTest_140 ml_mo_365 mv_mo_isOn (by decide) (Nat.le_of_ble_eq_true rfl) is_mo (ok_isOn w5 (by omega) (by decide)) ?_
              rintro x140 f2 ⟨hx140, e2⟩
              rw [e2]; clear e2 f2
              refine V_if_ne 155 d_mo_goesOnTest_143 (by decide) (by rcases hx140 with h | h <;> omega) (fun c143 => ?_) (fun c143 => ?_)
              · skip
                exact absurd (q_b1 hx140 (by omega)) (topN_no htp (by decide))
              · skip
                refine V_aload_0 d_mo_goesOnTest_146 ?_
                refine V_bipush 15 d_mo_goesOnTest_147 (by decide) ?_
                refine V_cvI1 d_mo_goesOnTest_149 ml_mo_365 mv_mo_isOn (by decide) (Nat.le_of_ble_eq_true rfl) is_mo (ok_isOn w5 (by omega) (by decide)) ?_
                rintro x149 f2 ⟨hx149, e2⟩
                rw [e2]; clear e2 f2
                refine V_if_eq 162 d_mo_goesOnTest_152 (by decide) (by rcases hx149 with h | h <;> omega) (fun c152 => ?_) (fun c152 => ?_)
                · skip
                  refine V_aload_0 d_mo_goesOnTest_162 ?_
                  refine V_getR d_mo_goesOnTest_163 fl_mo_124 is_mo r_mo_wait ?_
                  refine V_aload_0 d_mo_goesOnTest_166 ?_
                  refine V_getI d_mo_goesOnTest_167 fl_mo_277 is_mo ?_
                  rw [hw50]
                  refine V_bipush 15 d_mo_goesOnTest_170 (by decide) ?_
                  refine V_iast d_mo_goesOnTest_172 is_mo_wait (by omega) (by omega) ?_
                  refine V_aload_0 d_mo_goesOnTest_173 ?_
                  refine V_dup d_mo_goesOnTest_174 rfl ?_
                  refine V_getI d_mo_goesOnTest_175 fl_mo_277 is_mo ?_
                  rw [q_up_at (by decide), hw50]
                  refine V_iconst 1 d_mo_goesOnTest_178 ?_
                  refine V_iadd d_mo_goesOnTest_179 ?_
                  refine V_putI d_mo_goesOnTest_180 fl_mo_277 is_mo ?_
                  refine V_iconst 1 d_mo_goesOnTest_183 ?_
                  refine V_ireturn d_mo_goesOnTest_184 (hR _ _ (by decide) ?_)
                  exact ⟨Or.inl ⟨rfl, s1⟩, s2⟩
                · skip
                  exact absurd (q_b1 hx149 (by omega)) (topN_no htp (by decide))
            | cons x U ihU =>
              intro L' M F5 q d hU htp w5 c5 t5 o5 l5 hnM hWM hch5 q5
              have hq16 := t5.pr
              have hx := isO_1.mp (hU x (List.mem_cons_self ..))
              have w5' : wS F5 (x :: (U ++ M)) := w5
              have l5' : (L'.length : Int) + ((U ++ M).length + 1) + 1 ≤ q := by
                rw [List.cons_append, List.length_cons] at l5; push_cast at l5; omega
              have KD : V D C m_mo_goesOnTest 155 [vr D 219] [] (Zg g h) F5 := by
                refine V_aload_0 d_mo_goesOnTest_155 ?_
                refine V_cvV0 d_mo_goesOnTest_156 ml_mo_353 mv_mo_drops (by decide) (Nat.le_of_ble_eq_true rfl) is_mo (ok_drops w5' c5 (by omega) (by omega)) ?_
                rintro F6 ⟨w6, c6, k6⟩
                refine V_goto 137 d_mo_goesOnTest_159 (by decide) ?_
                refine ihU (L' ++ [x]) M F6 q d (fun z hz => hU z (List.mem_cons_of_mem _ hz)) htp w6 c6 (t5.fr (fun j k hj => k6 j k (by omega) (by omega))) (by rw [k6 _ _ (by decide) (by decide)]; exact o5) ?_ hnM hWM (by rw [List.append_assoc]; exact hch5) (q5.tr (fun j k a b c => k6 j k b (by omega)))
                rw [List.length_append, List.length_cons, List.length_nil]; push_cast; omega
              refine V_aload_0 d_mo_goesOnTest_137 ?_
              refine V_bipush 14 d_mo_goesOnTest_138 (by decide) ?_
              refine V_cvI1 d_mo_goesOnTest_140 ml_mo_365 mv_mo_isOn (by decide) (Nat.le_of_ble_eq_true rfl) is_mo (ok_isOn w5' (by simp only [List.length_cons]; push_cast; omega) (by decide)) ?_
              rintro x140 f2 ⟨hx140, e2⟩
              rw [e2]; clear e2 f2
              refine V_if_ne 155 d_mo_goesOnTest_143 (by decide) (by rcases hx140 with h | h <;> omega) (fun c143 => ?_) (fun c143 => ?_)
              · skip
                exact KD
              · skip
                refine V_aload_0 d_mo_goesOnTest_146 ?_
                refine V_bipush 15 d_mo_goesOnTest_147 (by decide) ?_
                refine V_cvI1 d_mo_goesOnTest_149 ml_mo_365 mv_mo_isOn (by decide) (Nat.le_of_ble_eq_true rfl) is_mo (ok_isOn w5' (by simp only [List.length_cons]; push_cast; omega) (by decide)) ?_
                rintro x149 f2 ⟨hx149, e2⟩
                rw [e2]; clear e2 f2
                refine V_if_eq 162 d_mo_goesOnTest_152 (by decide) (by rcases hx149 with h | h <;> omega) (fun c152 => ?_) (fun c152 => ?_)
                · skip
                  exfalso
                  rcases hx with h | h
                  · exact q_b0 hx140 (by omega) ⟨_, by rw [h]⟩
                  · exact q_b0 hx149 (by omega) ⟨_, by rw [h]⟩
                · skip
                  exact KD
          have hwF1 : mW F1 := hw.q hq1
          have K185 : ∀ F3 : q_F, ¬ wd T N p e = 17 → ¬ wd T N p e = 16 → mpS F3 T N (.inr (p, e)) → mK F1 F3 → F3 219 2 = p → V D C m_mo_goesOnTest 185 [vr D 219] [] (Zg g h) F3 := by
            intro F3 n17 n16 t3 k3 e3
            have hM3 := hM1.mk k3 t3 (Int.le_refl _)
            have b3 := t3.2.2.2.1
            have q3 := hq1.tr k3.q
            have okq3 := ok_hasSquare (D := D) (g := g) (h := h) hM3.2.1 (by omega)
            rw [if_neg n17, if_neg n16] at hch
            by_cases h25 : 25 ∈ K
            · rw [if_pos h25] at hch
              cases hch
              refine V_aload_0 d_mo_goesOnTest_185 ?_
              refine V_getI d_mo_goesOnTest_186 fl_mo_185 is_mo ?_
              rw [b3]
              refine V_if_ne 208 d_mo_goesOnTest_189 (by decide) (by omega) (fun c189 => by omega) (fun c189 => ?_)
              refine V_aload_0 d_mo_goesOnTest_192 ?_
              refine V_cvI0 d_mo_goesOnTest_193 ml_mo_383 mv_mo_hasSquare (by decide) (Nat.le_of_ble_eq_true rfl) is_mo (okq3) ?_
              rintro x193 f2 ⟨hx193, e2⟩
              rw [e2]; clear e2 f2
              refine V_if_eq 208 d_mo_goesOnTest_196 (by decide) (by rcases hx193 with h | h <;> omega) (fun c196 => ?_) (fun c196 => ?_)
              · skip
                exact absurd h25 (q_b0 hx193 c196)
              · skip
                refine V_aload_0 d_mo_goesOnTest_199 ?_
                refine V_iconst 1 d_mo_goesOnTest_200 ?_
                refine V_aload_0 d_mo_goesOnTest_201 ?_
                refine V_getI d_mo_goesOnTest_202 fl_mo_191 is_mo ?_
                rw [e3]
                refine V_cvV2 d_mo_goesOnTest_205 ml_mo_215 mv_mo_fail (by decide) (Nat.le_of_ble_eq_true rfl) is_mo (ok_mfail t3 (by decide)) ?_
                rintro F4 ⟨t4, k4⟩
                refine V_iconst 0 d_mo_goesOnTest_208 ?_
                refine V_ireturn d_mo_goesOnTest_209 (hR _ _ (by decide) ?_)
                refine ⟨Or.inr ⟨rfl, Or.inl ⟨(1, p), rfl, t4, ?_⟩⟩, q3.tr k4.q⟩
                have := hM3.bd
                rw [k4 _ _ (by decide)]; omega
            · rw [if_neg h25] at hch
              cases hch
              refine V_aload_0 d_mo_goesOnTest_185 ?_
              refine V_getI d_mo_goesOnTest_186 fl_mo_185 is_mo ?_
              rw [b3]
              refine V_if_ne 208 d_mo_goesOnTest_189 (by decide) (by omega) (fun c189 => by omega) (fun c189 => ?_)
              refine V_aload_0 d_mo_goesOnTest_192 ?_
              refine V_cvI0 d_mo_goesOnTest_193 ml_mo_383 mv_mo_hasSquare (by decide) (Nat.le_of_ble_eq_true rfl) is_mo (okq3) ?_
              rintro x193 f2 ⟨hx193, e2⟩
              rw [e2]; clear e2 f2
              refine V_if_eq 208 d_mo_goesOnTest_196 (by decide) (by rcases hx193 with h | h <;> omega) (fun c196 => ?_) (fun c196 => ?_)
              · skip
                refine V_iconst 0 d_mo_goesOnTest_208 ?_
                refine V_ireturn d_mo_goesOnTest_209 (hR _ _ (by decide) ?_)
                exact ⟨Or.inr ⟨rfl, Or.inr ⟨K, L, o, p, e, rfl, hM3⟩⟩, q3⟩
              · skip
                exact absurd (q_b1 hx193 c196) h25
          have K76 : V D C m_mo_goesOnTest 76 [vr D 219] [] (Zg g h) F1 := by
            refine V_aload_0 d_mo_goesOnTest_76 ?_
            refine V_aload_0 d_mo_goesOnTest_77 ?_
            refine V_getR d_mo_goesOnTest_78 fl_mo_69 is_mo r_mo_andWord ?_
            refine V_cvI1 d_mo_goesOnTest_81 ml_mo_212 mv_mo_takes (by decide) (Nat.le_of_ble_eq_true rfl) is_mo (ok_tkA hM1.1 hwF1 17 (by decide) rfl) ?_
            rintro x3 F3 ⟨k3, hx3⟩
            refine V_if_eq 126 d_mo_goesOnTest_84 (by decide) (by rcases hx3 with h | h <;> omega) (fun c84 => ?_) (fun c84 => ?_)
            · skip
              obtain ⟨-, n17, t3, e3⟩ := hx3.resolve_left (fun h => by omega)
              have n17 : ¬ wd T N p e = 17 := n17
              refine V_aload_0 d_mo_goesOnTest_126 ?_
              refine V_aload_0 d_mo_goesOnTest_127 ?_
              refine V_getR d_mo_goesOnTest_128 fl_mo_66 is_mo r_mo_orWord ?_
              refine V_cvI1 d_mo_goesOnTest_131 ml_mo_212 mv_mo_takes (by decide) (Nat.le_of_ble_eq_true rfl) is_mo (ok_tkA t3 (hwF1.mk k3) 16 (by decide) rfl) ?_
              rintro x4 F4 ⟨k4, hx4⟩
              refine V_if_eq 185 d_mo_goesOnTest_134 (by decide) (by rcases hx4 with h | h <;> omega) (fun c134 => ?_) (fun c134 => ?_)
              · skip
                obtain ⟨-, n16, t4, e4⟩ := hx4.resolve_left (fun h => by omega)
                exact K185 F4 n17 n16 t4 (k3.tr k4) e4
              · skip
                obtain ⟨-, y16, t4⟩ := hx4.resolve_right (fun h => by omega)
                have y16 : wd T N p e = 16 := y16
                have hge := wd_ge (T := T) (N := N) (p := p) (e := e) hrg.2.1 (by omega)
                have hM4 := hM1.mk (k3.tr k4) t4 (by omega)
                have hspl : K.takeWhile isO ++ K.dropWhile isO = K := List.takeWhile_append_dropWhile
                rw [if_neg n17, if_pos y16] at hch
                refine K137 (K.takeWhile isO) L (K.dropWhile isO) F4 _ _ (tw_all isO K) (dw_top isO K) (by rw [hspl]; exact hM4.2.1) hM4.2.2.1 t4 hM4.2.2.2.1 (by rw [hspl]; omega) (nQ_dw (fun x hx => isO_1.mp hx) K) (fun x hx => hW x (by rw [← hspl]; exact List.mem_append_right _ hx)) hch (hq1.tr (k3.tr k4).q)
            · skip
              obtain ⟨-, y17, t3⟩ := hx3.resolve_right (fun h => by omega)
              have y17 : wd T N p e = 17 := y17
              have hge := wd_ge (T := T) (N := N) (p := p) (e := e) hrg.2.1 (by omega)
              have hM3 := hM1.mk k3 t3 (by omega)
              have hspl : K.takeWhile isA ++ K.dropWhile isA = K := List.takeWhile_append_dropWhile
              rw [if_pos y17] at hch
              refine K87 (K.takeWhile isA) L (K.dropWhile isA) F3 _ _ (tw_all isA K) (dw_top isA K) (by rw [hspl]; exact hM3.2.1) hM3.2.2.1 t3 hM3.2.2.2.1 (by rw [hspl]; omega) (nQ_dw (fun x hx => Or.inl (isA_14.mp hx)) K) (fun x hx => hW x (by rw [← hspl]; exact List.mem_append_right _ hx)) hch (hq1.tr k3.q)
          refine V_aload_0 d_mo_goesOnTest_0 ?_
          refine V_getI d_mo_goesOnTest_1 fl_mo_185 is_mo ?_
          rw [hb5]
          refine V_if_ne 76 d_mo_goesOnTest_4 (by decide) (by omega) (fun c4 => by omega) (fun c4 => ?_)
          refine V_aload_0 d_mo_goesOnTest_7 ?_
          refine V_cvI0 d_mo_goesOnTest_8 ml_mo_197 mv_mo_look (by decide) (Nat.le_of_ble_eq_true rfl) is_mo (ok_look hM.1) ?_
          rintro _ f2 ⟨rfl, e2⟩
          rw [e2]; clear e2 f2
          rw [hF1]
          refine V_bipush 93 d_mo_goesOnTest_11 (by decide) ?_
          refine V_icmp_ne 76 d_mo_goesOnTest_13 (by decide) (by omega) (by omega) (fun c13 => ?_) (fun c13 => ?_)
          · skip
            exact K76
          · skip
            refine V_aload_0 d_mo_goesOnTest_16 ?_
            refine V_cvI0 d_mo_goesOnTest_17 ml_mo_383 mv_mo_hasSquare (by decide) (Nat.le_of_ble_eq_true rfl) is_mo (okq) ?_
            rintro x17 f2 ⟨hx17, e2⟩
            rw [e2]; clear e2 f2
            refine V_if_eq 76 d_mo_goesOnTest_20 (by decide) (by rcases hx17 with h | h <;> omega) (fun c20 => ?_) (fun c20 => ?_)
            · skip
              exact K76
            · skip
              exact absurd ⟨by omega, q_b1 hx17 c20⟩ hA
  exact loop n f (Nat.le_refl _) hSt (mQ.refl f)
/-- a whole test -/
def testP (f' : q_F) (T : Int → Int) (N : Int) (X : q_R (List Int × Int × Int)) : Prop := match X with
  | .inl e0 => mBf f' T N e0
  | .inr s => mpS f' T N (.inr s.2) ∧ rcS f' s.1 ∧ ((s.1.length : Int) ≤ s.2.1)
theorem ok_test {n : Nat} {L : List Int} {r : q_R (List Int × Int × Int)} (hM : mR f T N [] L 0 p e) (hw : mW f) (hr : rd T N n 8 0 p e = some r) : OkV D m_mo_test [vr D 219] (Zg g h) f (fun f' => testP f' T N (rpre L r) ∧ mQ f f') := by
  obtain ⟨m0, hm0⟩ := t_test (F := n) (Nat.le_refl _) (L := L) (by decide) hr
  generalize hX : rpre L r = X at *
  refine OkV_of (L0 := [vr D 219, vu, vu]) mi_mo_test rfl rfl (Nat.le_of_ble_eq_true rfl) (fun C hR => ?_)
  have KB : ∀ (F2 : q_F) (e0 : Int × Int) (v : Int) (u : Value), (v = 0 ∨ v = 1) → X = .inl e0 → mBf F2 T N e0 → mQ f F2 → V D C m_mo_test 2 [vr D 219, vi v, u] [] (Zg g h) F2 := by
    intro F2 e0 v u hv hX hB hq
    have hb := hB.1.2.2.2
    have fin : V D C m_mo_test 110 [vr D 219, vi v, u] [] (Zg g h) F2 := by
      refine V_aload_0 d_mo_test_110 ?_
      refine V_getI d_mo_test_111 fl_mo_185 is_mo ?_
      rw [hb.1]
      refine V_if_ne 131 d_mo_test_114 (by decide) (by omega) (fun c114 => ?_) (fun c114 => by omega)
      refine V_return d_mo_test_131 (hR _ ?_)
      rw [hX]
      exact ⟨hB, hq⟩
    rcases hv with rfl | rfl
    · skip
      refine V_iload_1 d_mo_test_2 ?_
      refine V_if_eq 110 d_mo_test_3 (by decide) (by omega) (fun c3 => ?_) (fun c3 => by omega)
      exact fin
    · skip
      refine V_iload_1 d_mo_test_2 ?_
      refine V_if_eq 110 d_mo_test_3 (by decide) (by omega) (fun c3 => by omega) (fun c3 => ?_)
      refine V_aload_0 d_mo_test_6 ?_
      refine V_getI d_mo_test_7 fl_mo_185 is_mo ?_
      rw [hb.1]
      refine V_if_ne 110 d_mo_test_10 (by decide) (by omega) (fun c10 => ?_) (fun c10 => by omega)
      exact fin
  have KE : ∀ (K L' : List Int) (F2 : q_F) (o q d : Int) (u : Value), X = .inr (L' ++ K, q, d) → mR F2 T N K L' o q d → mQ f F2 → V D C m_mo_test 110 [vr D 219, vi 0, u] [] (Zg g h) F2 := by
    intro K
    induction K with
    | nil =>
      intro L' F2 o q d u hX hM2 hq
      have hb := hM2.1.2.2.2.1
      have h50 : F2 219 50 = 0 := hM2.2.1.1
      refine V_aload_0 d_mo_test_110 ?_
      refine V_getI d_mo_test_111 fl_mo_185 is_mo ?_
      rw [hb]
      refine V_if_ne 131 d_mo_test_114 (by decide) (by omega) (fun c114 => by omega) (fun c114 => ?_)
      refine V_aload_0 d_mo_test_117 ?_
      refine V_getI d_mo_test_118 fl_mo_277 is_mo ?_
      rw [h50]
      refine V_if_le 131 d_mo_test_121 (by decide) (by omega) (fun c121 => ?_) (fun c121 => by omega)
      refine V_return d_mo_test_131 (hR _ ?_)
      rw [hX, List.append_nil]
      have := hM2.2.2.2.2
      simp only [List.length_nil] at this
      exact ⟨⟨hM2.1, hM2.2.2.1, by show (L'.length : Int) ≤ q; omega⟩, hq⟩
    | cons x K ih =>
      intro L' F2 o q d u hX hM2 hq
      have hb := hM2.1.2.2.2.1
      obtain ⟨g1, g2, g3⟩ := hM2.2.1.top
      have hrg2 := hM2.rg
      have hlen : ((x :: K).length : Int) = K.length + 1 := by rw [List.length_cons]; push_cast; rfl
      refine V_aload_0 d_mo_test_110 ?_
      refine V_getI d_mo_test_111 fl_mo_185 is_mo ?_
      rw [hb]
      refine V_if_ne 131 d_mo_test_114 (by decide) (by omega) (fun c114 => by omega) (fun c114 => ?_)
      refine V_aload_0 d_mo_test_117 ?_
      refine V_getI d_mo_test_118 fl_mo_277 is_mo ?_
      rw [g1]
      refine V_if_le 131 d_mo_test_121 (by decide) (by omega) (fun c121 => by omega) (fun c121 => ?_)
      refine V_aload_0 d_mo_test_124 ?_
      refine V_cvV0 d_mo_test_125 ml_mo_353 mv_mo_drops (by decide) (Nat.le_of_ble_eq_true rfl) is_mo (ok_drops hM2.2.1 hM2.2.2.1 (by omega) (by omega)) ?_
      rintro F3 ⟨w3, c3, k3⟩
      refine V_goto 110 d_mo_test_128 (by decide) ?_
      refine ih (L' ++ [x]) F3 o q d _ (by rw [hX]; simp) ⟨hM2.1.fr (fun j k hj => k3 j k (by omega) (by omega)), w3, c3, by rw [k3 _ _ (by decide) (by decide)]; exact hM2.2.2.2.1, ?_⟩ (hq.tr (fun j k a b c => k3 j k b (by omega)))
      rw [List.length_append, List.length_cons, List.length_nil]; push_cast; omega
  have loop : ∀ (n2 : Nat) (F2 : q_F) (u : Value), tSt F2 T N n true n2 X → mQ f F2 → V D C m_mo_test 2 [vr D 219, vi 1, u] [] (Zg g h) F2 := by
    intro n2
    induction n2 with
    | zero =>
      intro F2 u hSt
      obtain ⟨m, K, L, o, p, e, h1, h2, -⟩ := hSt
      have : m = 0 := by omega
      subst this
      cases h2
    | succ n2 ih =>
      intro F2 u hSt hq
      obtain ⟨m, K, L, o, p, e, hm, hch, hM, ho, ho6, hW⟩ := hSt
      cases m with
      | zero => cases hch
      | succ m =>
        have hrg := hM.rg
        have hlk := lk_rg hM.1.1 hrg.1
        have hnr := nQ_rg K
        have hb5 := hM.1.2.2.2.1
        have hM1 : mR (q_up F2 219 2 p) T N K L o p e := hM.mk ((mK.refl F2).up (by decide)) hM.1.pl (Int.le_refl _)
        have hq1 : mQ f (q_up F2 219 2 p) := hq.tr ((mK.refl F2).up (by decide)).q
        have hwF1 : mW (q_up F2 219 2 p) := hw.q hq1
        unfold tch at hch
        by_cases hl : lk T N p = 91
        · rw [if_pos hl] at hch
          have hpN := (lk_of (by decide) hl).1
          have hsk := sk_ge (T := T) hpN
          by_cases ho5 : o < 6
          · rw [if_pos ho5] at hch
            refine V_iload_1 d_mo_test_2 ?_
            refine V_if_eq 110 d_mo_test_3 (by decide) (by omega) (fun c3 => by omega) (fun c3 => ?_)
            refine V_aload_0 d_mo_test_6 ?_
            refine V_getI d_mo_test_7 fl_mo_185 is_mo ?_
            rw [hb5]
            refine V_if_ne 110 d_mo_test_10 (by decide) (by omega) (fun c10 => by omega) (fun c10 => ?_)
            refine V_aload_0 d_mo_test_13 ?_
            refine V_cvI0 d_mo_test_14 ml_mo_197 mv_mo_look (by decide) (Nat.le_of_ble_eq_true rfl) is_mo (ok_look hM.1) ?_
            rintro _ f2 ⟨rfl, e2⟩
            rw [e2]; clear e2 f2
            refine V_istore_2 d_mo_test_17 rfl ?_
            refine V_iload_2 d_mo_test_18 ?_
            refine V_bipush 91 d_mo_test_19 (by decide) ?_
            refine V_icmp_ne 47 d_mo_test_21 (by decide) (by omega) (by omega) (fun c21 => by omega) (fun c21 => ?_)
            refine V_aload_0 d_mo_test_24 ?_
            refine V_bipush 25 d_mo_test_25 (by decide) ?_
            refine V_aload_0 d_mo_test_27 ?_
            refine V_getI d_mo_test_28 fl_mo_191 is_mo ?_
            rw [q_up_eq]
            refine V_cvV2 d_mo_test_31 ml_mo_356 mv_mo_opens (by decide) (Nat.le_of_ble_eq_true rfl) is_mo (ok_opens hM1 (by omega) (by decide)) ?_
            rintro F3 h3
            obtain ⟨-, w1, w2, w3⟩ := h3.resolve_right (fun h => h.1 ho5)
            have e3 : F3 219 2 = p := by rw [w3 _ _ (by decide) (by decide), q_up_eq]
            have t3 : mpS F3 T N (.inr (p, e)) := hM1.1.fr (fun j k hj => w3 j k (by omega) (by omega))
            refine V_aload_0 d_mo_test_34 ?_
            refine V_dup d_mo_test_35 rfl ?_
            refine V_getI d_mo_test_36 fl_mo_191 is_mo ?_
            rw [e3]
            refine V_iconst 1 d_mo_test_39 ?_
            refine V_iadd d_mo_test_40 ?_
            refine V_putI d_mo_test_41 fl_mo_191 is_mo ?_
            refine V_goto 2 d_mo_test_44 (by decide) ?_
            refine ih _ _ ⟨m, 25 :: K, L, o + 1, _, _, by omega, hch, ⟨t3.next (by decide) hl, ?_, ?_, ?_, ?_⟩, ?_, by omega, ?_⟩ ?_
            · exact w1.fr (fun j k hj => q_up_ne (by omega))
            · exact hM1.2.2.1.fr (fun j k hj => by rw [q_up_ne (by omega), w3 j k (by omega) (by omega)])
            · rw [q_up_ne (Or.inr (by decide))]; exact w2
            · rw [List.length_cons]; push_cast; omega
            · show (if (25 : Int) = 16 ∨ (25 : Int) = 25 then 1 else 0) + nQ K ≤ o + 1
              rw [if_pos (Or.inr rfl)]; omega
            · intro x hx
              rcases List.mem_cons.mp hx with e | e
              · rw [e]; unfold isW; omega
              · exact hW x e
            · refine hq1.tr (fun j k a b c => ?_)
              rw [q_up_ne (by omega), w3 j k c (by omega)]
          · rw [if_neg ho5] at hch
            cases hch
            refine V_iload_1 d_mo_test_2 ?_
            refine V_if_eq 110 d_mo_test_3 (by decide) (by omega) (fun c3 => by omega) (fun c3 => ?_)
            refine V_aload_0 d_mo_test_6 ?_
            refine V_getI d_mo_test_7 fl_mo_185 is_mo ?_
            rw [hb5]
            refine V_if_ne 110 d_mo_test_10 (by decide) (by omega) (fun c10 => by omega) (fun c10 => ?_)
            refine V_aload_0 d_mo_test_13 ?_
            refine V_cvI0 d_mo_test_14 ml_mo_197 mv_mo_look (by decide) (Nat.le_of_ble_eq_true rfl) is_mo (ok_look hM.1) ?_
            rintro _ f2 ⟨rfl, e2⟩
            rw [e2]; clear e2 f2
            refine V_istore_2 d_mo_test_17 rfl ?_
            refine V_iload_2 d_mo_test_18 ?_
            refine V_bipush 91 d_mo_test_19 (by decide) ?_
            refine V_icmp_ne 47 d_mo_test_21 (by decide) (by omega) (by omega) (fun c21 => by omega) (fun c21 => ?_)
            refine V_aload_0 d_mo_test_24 ?_
            refine V_bipush 25 d_mo_test_25 (by decide) ?_
            refine V_aload_0 d_mo_test_27 ?_
            refine V_getI d_mo_test_28 fl_mo_191 is_mo ?_
            rw [q_up_eq]
            refine V_cvV2 d_mo_test_31 ml_mo_356 mv_mo_opens (by decide) (Nat.le_of_ble_eq_true rfl) is_mo (ok_opens hM1 (by omega) (by decide)) ?_
            rintro F3 h3
            obtain ⟨-, w1, w2⟩ := h3.resolve_left (fun h => ho5 h.1)
            refine V_aload_0 d_mo_test_34 ?_
            refine V_dup d_mo_test_35 rfl ?_
            refine V_getI d_mo_test_36 fl_mo_191 is_mo ?_
            refine V_iconst 1 d_mo_test_39 ?_
            refine V_iadd d_mo_test_40 ?_
            refine V_putI d_mo_test_41 fl_mo_191 is_mo ?_
            refine V_goto 2 d_mo_test_44 (by decide) ?_
            refine KB _ (4, p) 1 _ (Or.inr rfl) rfl ⟨w1.fr2 _, ?_⟩ ?_
            · have := hM1.bd
              rw [q_up_ne (Or.inr (by decide)), w2 _ _ (by decide)]; omega
            · exact (hq1.tr w2.q).tr ((mK.refl F3).up (by decide)).q
        · rw [if_neg hl] at hch
          by_cases h18 : wd T N p e = 18
          · rw [if_pos h18] at hch
            have hge := wd_ge (T := T) (N := N) (p := p) (e := e) hrg.2.1 (by omega)
            have hlw : l_word T N ((18 : Nat) : Int) p e = .inr (sk T N (le T N p), le T N p) := by unfold l_word; rw [if_pos (by rw [h18]; rfl)]
            by_cases ho5 : o < 6
            · rw [if_pos ho5] at hch
              refine V_iload_1 d_mo_test_2 ?_
              refine V_if_eq 110 d_mo_test_3 (by decide) (by omega) (fun c3 => by omega) (fun c3 => ?_)
              refine V_aload_0 d_mo_test_6 ?_
              refine V_getI d_mo_test_7 fl_mo_185 is_mo ?_
              rw [hb5]
              refine V_if_ne 110 d_mo_test_10 (by decide) (by omega) (fun c10 => by omega) (fun c10 => ?_)
              refine V_aload_0 d_mo_test_13 ?_
              refine V_cvI0 d_mo_test_14 ml_mo_197 mv_mo_look (by decide) (Nat.le_of_ble_eq_true rfl) is_mo (ok_look hM.1) ?_
              rintro _ f2 ⟨rfl, e2⟩
              rw [e2]; clear e2 f2
              refine V_istore_2 d_mo_test_17 rfl ?_
              refine V_iload_2 d_mo_test_18 ?_
              refine V_bipush 91 d_mo_test_19 (by decide) ?_
              refine V_icmp_ne 47 d_mo_test_21 (by decide) (by omega) (by omega) (fun c21 => ?_) (fun c21 => by omega)
              refine V_aload_0 d_mo_test_47 ?_
              refine V_aload_0 d_mo_test_48 ?_
              refine V_getR d_mo_test_49 fl_mo_72 is_mo r_mo_notWord ?_
              refine V_cvI1 d_mo_test_52 ml_mo_208 mv_mo_isHere (by decide) (Nat.le_of_ble_eq_true rfl) is_mo (ok_hereA hM1.1 hwF1 18 (by decide) rfl) ?_
              rintro x52 f2 ⟨hx52, e2⟩
              rw [e2]; clear e2 f2
              rw [q_up_up]
              refine V_if_eq 79 d_mo_test_55 (by decide) (by rcases hx52 with h | h <;> omega) (fun c55 => ?_) (fun c55 => ?_)
              · skip
                exact absurd (by rw [h18]; rfl) (q_b0 hx52 c55)
              · skip
                refine V_aload_0 d_mo_test_58 ?_
                refine V_bipush 16 d_mo_test_59 (by decide) ?_
                refine V_aload_0 d_mo_test_61 ?_
                refine V_getI d_mo_test_62 fl_mo_191 is_mo ?_
                rw [q_up_eq]
                refine V_cvV2 d_mo_test_65 ml_mo_356 mv_mo_opens (by decide) (Nat.le_of_ble_eq_true rfl) is_mo (ok_opens hM1 (by omega) (by decide)) ?_
                rintro F3 h3
                obtain ⟨-, w1, w2, w3⟩ := h3.resolve_right (fun h => h.1 ho5)
                have t3 : mpS F3 T N (.inr (p, e)) := hM1.1.fr (fun j k hj => w3 j k (by omega) (by omega))
                have q3 : mQ f F3 := hq1.tr (fun j k a b c => w3 j k c (by omega))
                refine V_aload_0 d_mo_test_68 ?_
                refine V_aload_0 d_mo_test_69 ?_
                refine V_getR d_mo_test_70 fl_mo_72 is_mo r_mo_notWord ?_
                refine V_cvV1 d_mo_test_73 ml_mo_248 mv_mo_asks (by decide) (Nat.le_of_ble_eq_true rfl) is_mo (ok_askA t3 (hw.q q3) 18 (by decide) rfl) ?_
                rintro F4 ⟨t4, k4⟩
                have t5 : mpS F4 T N (l_word T N ((18 : Nat) : Int) p e) := t4
                rw [hlw] at t5
                refine V_goto 2 d_mo_test_76 (by decide) ?_
                refine ih _ _ ⟨m, 16 :: K, L, o + 1, _, _, by omega, hch, ⟨t5, ?_, ?_, ?_, ?_⟩, ?_, by omega, ?_⟩ (q3.tr k4.q)
                · exact w1.fr (fun j k hj => k4 j k (by omega))
                · exact hM1.2.2.1.fr (fun j k hj => by rw [k4 j k (by omega), w3 j k (by omega) (by omega)])
                · rw [k4 _ _ (by decide)]; exact w2
                · rw [List.length_cons]; push_cast; omega
                · show (if (16 : Int) = 16 ∨ (16 : Int) = 25 then 1 else 0) + nQ K ≤ o + 1
                  rw [if_pos (Or.inl rfl)]; omega
                · intro x hx
                  rcases List.mem_cons.mp hx with e | e
                  · rw [e]; unfold isW; omega
                  · exact hW x e
            · rw [if_neg ho5] at hch
              cases hch
              refine V_iload_1 d_mo_test_2 ?_
              refine V_if_eq 110 d_mo_test_3 (by decide) (by omega) (fun c3 => by omega) (fun c3 => ?_)
              refine V_aload_0 d_mo_test_6 ?_
              refine V_getI d_mo_test_7 fl_mo_185 is_mo ?_
              rw [hb5]
              refine V_if_ne 110 d_mo_test_10 (by decide) (by omega) (fun c10 => by omega) (fun c10 => ?_)
              refine V_aload_0 d_mo_test_13 ?_
              refine V_cvI0 d_mo_test_14 ml_mo_197 mv_mo_look (by decide) (Nat.le_of_ble_eq_true rfl) is_mo (ok_look hM.1) ?_
              rintro _ f2 ⟨rfl, e2⟩
              rw [e2]; clear e2 f2
              refine V_istore_2 d_mo_test_17 rfl ?_
              refine V_iload_2 d_mo_test_18 ?_
              refine V_bipush 91 d_mo_test_19 (by decide) ?_
              refine V_icmp_ne 47 d_mo_test_21 (by decide) (by omega) (by omega) (fun c21 => ?_) (fun c21 => by omega)
              refine V_aload_0 d_mo_test_47 ?_
              refine V_aload_0 d_mo_test_48 ?_
              refine V_getR d_mo_test_49 fl_mo_72 is_mo r_mo_notWord ?_
              refine V_cvI1 d_mo_test_52 ml_mo_208 mv_mo_isHere (by decide) (Nat.le_of_ble_eq_true rfl) is_mo (ok_hereA hM1.1 hwF1 18 (by decide) rfl) ?_
              rintro x52 f2 ⟨hx52, e2⟩
              rw [e2]; clear e2 f2
              rw [q_up_up]
              refine V_if_eq 79 d_mo_test_55 (by decide) (by rcases hx52 with h | h <;> omega) (fun c55 => ?_) (fun c55 => ?_)
              · skip
                exact absurd (by rw [h18]; rfl) (q_b0 hx52 c55)
              · skip
                refine V_aload_0 d_mo_test_58 ?_
                refine V_bipush 16 d_mo_test_59 (by decide) ?_
                refine V_aload_0 d_mo_test_61 ?_
                refine V_getI d_mo_test_62 fl_mo_191 is_mo ?_
                rw [q_up_eq]
                refine V_cvV2 d_mo_test_65 ml_mo_356 mv_mo_opens (by decide) (Nat.le_of_ble_eq_true rfl) is_mo (ok_opens hM1 (by omega) (by decide)) ?_
                rintro F3 h3
                obtain ⟨-, w1, w2⟩ := h3.resolve_left (fun h => ho5 h.1)
                refine V_aload_0 d_mo_test_68 ?_
                refine V_aload_0 d_mo_test_69 ?_
                refine V_getR d_mo_test_70 fl_mo_72 is_mo r_mo_notWord ?_
                refine V_cvV1 d_mo_test_73 ml_mo_248 mv_mo_asks (by decide) (Nat.le_of_ble_eq_true rfl) is_mo (ok_askA w1 (hwF1.mk w2) 18 (by decide) rfl) ?_
                rintro F4 ⟨t4, k4⟩
                refine V_goto 2 d_mo_test_76 (by decide) ?_
                refine KB _ (4, p) 1 _ (Or.inr rfl) rfl ⟨t4, ?_⟩ ((hq1.tr w2.q).tr k4.q)
                have := hM1.bd
                rw [k4 _ _ (by decide), w2 _ _ (by decide)]; omega
          · rw [if_neg h18] at hch
            cases hf : fct T N n o p e with
            | none => rw [hf] at hch; cases hch
            | some r =>
              rw [hf] at hch
              have K98 : ∀ (F4 : q_F) (x u : Int), ((x = 1 ∧ tSt F4 T N n true n2 X) ∨ (x = 0 ∧ ((∃ e0, X = .inl e0 ∧ mBf F4 T N e0) ∨ tEnd F4 T N X))) → mQ f F4 → V D C m_mo_test 98 [vr D 219, vi 1, vi u] [vi x] (Zg g h) F4 := by
                intro F4 x u hx q4
                rcases hx with ⟨rfl, s4⟩ | ⟨rfl, ⟨e0, hXe, hB⟩ | ⟨K', L', o', p', e', hXe, hM4⟩⟩
                · skip
                  refine V_if_eq 105 d_mo_test_98 (by decide) (by omega) (fun c98 => by omega) (fun c98 => ?_)
                  refine V_iconst 1 d_mo_test_101 ?_
                  refine V_goto 106 d_mo_test_102 (by decide) ?_
                  refine V_istore_1 d_mo_test_106 rfl ?_
                  refine V_goto 2 d_mo_test_107 (by decide) ?_
                  exact ih F4 _ s4 q4
                · skip
                  refine V_if_eq 105 d_mo_test_98 (by decide) (by omega) (fun c98 => ?_) (fun c98 => by omega)
                  refine V_iconst 0 d_mo_test_105 ?_
                  refine V_istore_1 d_mo_test_106 rfl ?_
                  refine V_goto 2 d_mo_test_107 (by decide) ?_
                  exact KB F4 e0 0 _ (Or.inl rfl) hXe hB q4
                · have hE := KE K' L' F4 o' p' e' (vi u) hXe hM4 q4
                  refine V_if_eq 105 d_mo_test_98 (by decide) (by omega) (fun c98 => ?_) (fun c98 => by omega)
                  refine V_iconst 0 d_mo_test_105 ?_
                  refine V_istore_1 d_mo_test_106 rfl ?_
                  refine V_goto 2 d_mo_test_107 (by decide) ?_
                  refine V_iload_1 d_mo_test_2 ?_
                  refine V_if_eq 110 d_mo_test_3 (by decide) (by omega) (fun c3 => ?_) (fun c3 => by omega)
                  exact hE
              have K83 : ∀ (F3 : q_F) (u : Int), factP F3 T N K o (rpre L r) → mQ f F3 → V D C m_mo_test 83 [vr D 219, vi 1, vi u] [] (Zg g h) F3 := by
                intro F3 u s3 q3
                cases r with
                | inl e0 =>
                  cases hch
                  have s3 : mBf F3 T N e0 := s3
                  have hb := s3.1.2.2.2
                  refine V_aload_0 d_mo_test_83 ?_
                  refine V_cvV0 d_mo_test_84 ml_mo_377 mv_mo_dropsNots (by decide) (Nat.le_of_ble_eq_true rfl) is_mo (ok_dropsNotsB s3.1) ?_
                  rintro f2 e2
                  rw [e2]; clear e2 f2
                  refine V_aload_0 d_mo_test_87 ?_
                  refine V_getI d_mo_test_88 fl_mo_185 is_mo ?_
                  rw [hb.1]
                  refine V_if_ne 105 d_mo_test_91 (by decide) (by omega) (fun c91 => ?_) (fun c91 => by omega)
                  refine V_iconst 0 d_mo_test_105 ?_
                  refine V_istore_1 d_mo_test_106 rfl ?_
                  refine V_goto 2 d_mo_test_107 (by decide) ?_
                  exact KB F3 e0 0 _ (Or.inl rfl) rfl s3 q3
                | inr s =>
                  have s3 : mR F3 T N K (L ++ s.1) o s.2.1 s.2.2 := s3
                  have hSt3 : tSt F3 T N n false n2 X := ⟨m, K, L ++ s.1, o, s.2.1, s.2.2, by omega, hch, s3, ho, ho6, hW⟩
                  refine V_aload_0 d_mo_test_83 ?_
                  refine V_cvV0 d_mo_test_84 ml_mo_377 mv_mo_dropsNots (by decide) (Nat.le_of_ble_eq_true rfl) is_mo (ok_dropsNots hSt3) ?_
                  rintro F4 ⟨s4, q4⟩
                  have hb4 : F4 219 5 = 0 := by
                    obtain ⟨m, K, L, o, p, e, h1, h2, h3, -⟩ := s4
                    exact h3.1.2.2.2.1
                  refine V_aload_0 d_mo_test_87 ?_
                  refine V_getI d_mo_test_88 fl_mo_185 is_mo ?_
                  rw [hb4]
                  refine V_if_ne 105 d_mo_test_91 (by decide) (by omega) (fun c91 => by omega) (fun c91 => ?_)
                  refine V_aload_0 d_mo_test_94 ?_
                  refine V_cvI0 d_mo_test_95 ml_mo_380 mv_mo_goesOnTest (by decide) (Nat.le_of_ble_eq_true rfl) is_mo (ok_goesOnTest s4 (hw.q (q3.tr q4))) ?_
                  rintro x F5 ⟨hx, q5⟩
                  exact K98 F5 x _ hx ((q3.tr q4).tr q5)
              refine V_iload_1 d_mo_test_2 ?_
              refine V_if_eq 110 d_mo_test_3 (by decide) (by omega) (fun c3 => by omega) (fun c3 => ?_)
              refine V_aload_0 d_mo_test_6 ?_
              refine V_getI d_mo_test_7 fl_mo_185 is_mo ?_
              rw [hb5]
              refine V_if_ne 110 d_mo_test_10 (by decide) (by omega) (fun c10 => by omega) (fun c10 => ?_)
              refine V_aload_0 d_mo_test_13 ?_
              refine V_cvI0 d_mo_test_14 ml_mo_197 mv_mo_look (by decide) (Nat.le_of_ble_eq_true rfl) is_mo (ok_look hM.1) ?_
              rintro _ f2 ⟨rfl, e2⟩
              rw [e2]; clear e2 f2
              refine V_istore_2 d_mo_test_17 rfl ?_
              refine V_iload_2 d_mo_test_18 ?_
              refine V_bipush 91 d_mo_test_19 (by decide) ?_
              refine V_icmp_ne 47 d_mo_test_21 (by decide) (by omega) (by omega) (fun c21 => ?_) (fun c21 => by omega)
              refine V_aload_0 d_mo_test_47 ?_
              refine V_aload_0 d_mo_test_48 ?_
              refine V_getR d_mo_test_49 fl_mo_72 is_mo r_mo_notWord ?_
              refine V_cvI1 d_mo_test_52 ml_mo_208 mv_mo_isHere (by decide) (Nat.le_of_ble_eq_true rfl) is_mo (ok_hereA hM1.1 hwF1 18 (by decide) rfl) ?_
              rintro x52 f2 ⟨hx52, e2⟩
              rw [e2]; clear e2 f2
              rw [q_up_up]
              refine V_if_eq 79 d_mo_test_55 (by decide) (by rcases hx52 with h | h <;> omega) (fun c55 => ?_) (fun c55 => ?_)
              · skip
                refine V_aload_0 d_mo_test_79 ?_
                refine V_cvV0 d_mo_test_80 ml_mo_374 mv_mo_fact (by decide) (Nat.le_of_ble_eq_true rfl) is_mo (ok_fact hM1 (by omega) (topN_ar hW) hwF1 hf) ?_
                rintro F3 ⟨s3, q3⟩
                exact K83 F3 _ s3 (hq1.tr q3)
              · skip
                exact absurd (q_b1 hx52 c55) h18
  refine V_iconst 1 d_mo_test_0 ?_
  refine V_istore_1 d_mo_test_1 rfl ?_
  exact loop m0 f _ ⟨m0, [], L, 0, p, e, Nat.le_refl _, hm0, hM, Int.le_refl _, by decide, fun x hx => by cases hx⟩ (mQ.refl f)
end RT2
