/-! the reference reads sums: behind a part; whole sums -/
section RS4
variable {D : q_D} {f f' : q_F} {A : q_As} {g h : Int} {T : Int → Int} {N p e : Int}
theorem tw_all (P : Int → Bool) : ∀ K : List Int, ∀ x ∈ K.takeWhile P, P x = true := by
  intro K
  induction K with
  | nil => intro x hx; cases hx
  | cons y K ih =>
    intro x hx
    rw [List.takeWhile_cons] at hx
    cases hm : P y
    · rw [hm] at hx; cases hx
    · rw [hm] at hx
      rcases List.mem_cons.mp hx with e | e
      · rw [e]; exact hm
      · exact ih x e
theorem dw_top (P : Int → Bool) : ∀ K : List Int, topN P (K.dropWhile P) := by
  intro K
  induction K with
  | nil => intro x K' h; cases h
  | cons y K ih =>
    rw [List.dropWhile_cons]
    cases hm : P y
    · intro x K' h; cases h; exact hm
    · rw [if_pos rfl]; exact ih
theorem topN_app {P : Int → Bool} {M K0 : List Int} (h1 : topN P M) (h2 : topN P K0) : topN P (M ++ K0) := by
  cases M with
  | nil => exact h2
  | cons x M => intro y K' h; cases h; exact h1 x M rfl
theorem isMu_3 {x : Int} : isMu x = true ↔ x = 3 ∨ x = 4 := by unfold isMu; exact decide_eq_true_iff
theorem isAr_4 {x : Int} : isAr x = true ↔ x = 3 ∨ x = 4 ∨ x = 1 ∨ x = 2 := by unfold isAr; exact decide_eq_true_iff
theorem topN_no {P : Int → Bool} {K : List Int} (h : topN P K) {c : Int} (hc : P c = true) : ¬ ∃ K', K = c :: K' := fun ⟨K', e⟩ => by rw [h c K' e] at hc; cases hc
theorem topN_mu {K : List Int} (h : topN isAr K) : topN isMu K := fun x K' e => by
  have := h x K' e
  unfold isAr at this; unfold isMu
  rw [decide_eq_false_iff_not] at this ⊢
  omega
theorem tmk_rg : ∀ K : List Int, -1 ≤ tmk K ∧ tmk K ≤ 24 := by
  intro K
  induction K with
  | nil => decide
  | cons x K ih =>
    show -1 ≤ (if isMk x then x else tmk K) ∧ (if isMk x then x else tmk K) ≤ 24
    cases hm : isMk x
    · exact ih
    · unfold isMk at hm
      rw [decide_eq_true_iff] at hm
      rw [if_pos rfl]; omega
theorem ok_goesOn {n : Nat} {K0 : List Int} {o0 : Int} {X : q_R (List Int × Int × Int)} (hSt : mSt f T N false K0 o0 n X) (hb : f 219 55 = K0.length) (ht0 : topN isAr K0) (h0 : 0 ≤ o0) : OkI D m_mo_goesOn [vr D 219] (Zg g h) f (fun x f' => ((x = 1 ∧ mSt f' T N true K0 o0 n X) ∨ (x = 0 ∧ ((∃ e0, X = .inl e0 ∧ mBd f' T N e0) ∨ ∃ K L p e, X = .inr (L ++ K, p, e) ∧ mR f' T N (K ++ K0) L o0 p e))) ∧ mQ f f') := by
  refine OkB_of (L0 := [vr D 219, vu]) mi_mo_goesOn rfl rfl (Nat.le_of_ble_eq_true rfl) (fun C hR => ?_)
  have hbq : ∀ F : q_F, mQ f F → F 219 55 = K0.length := fun F hq => by rw [hq _ _ (by decide) (by decide) (by decide)]; exact hb
  have loop : ∀ (m : Nat) (K L : List Int) (o p e : Int) (F : q_F) (u : Value), mch T N m false K L o p e = some X → m ≤ n → mR F T N (K ++ K0) L o p e → o = o0 + nMk K → o ≤ 6 → mQ f F → V D C m_mo_goesOn 0 [vr D 219, u] [] (Zg g h) F := by
    intro m
    induction m with
    | zero => intro K L o p e F u hch; cases hch
    | succ m ih =>
      intro K L o p e F u hch hm hM ho ho6 hq
      have hrg := hM.rg
      have hlk := lk_rg hM.1.1 hrg.1
      have hnm := nMk_rg K
      have htr := tmk_rg K
      have hM1 : mR (q_up F 219 2 p) T N (K ++ K0) L o p e := hM.mk ((mK.refl F).up (by decide)) hM.1.pl (Int.le_refl _)
      have hq1 : mQ f (q_up F 219 2 p) := hq.tr ((mK.refl F).up (by decide)).q
      have hb5 := hM.1.2.2.2.1
      have e1 : (q_up F 219 2 p) 219 2 = p := q_up_eq _ _ _ _
      generalize hF1 : q_up F 219 2 p = F1 at hM1 hq1 e1
      have hb1 := hbq F1 hq1
      have okm := ok_mark (D := D) (g := g) (h := h) hM1.2.1 hb1 (by omega)
      unfold mch at hch
      by_cases hA : lk T N p = 41 ∧ (tmk K = 20 ∨ tmk K = 23 ∨ tmk K = 24)
      · rw [if_pos hA] at hch
        have hpN := (lk_of (by decide) hA.1).1
        have hsk := sk_ge (T := T) hpN
        have hne : ¬ tmk K = -1 := by omega
        have hsp := tkm_split K hne
        have hmk : isMk (tmk K) = true := by unfold isMk; rw [decide_eq_true_iff]; omega
        have hnd := nMk_drm K hne
        have hnd0 := nMk_rg (drm K)
        have hlenK : (K.length : Int) = (tkm K).length + 1 + (drm K).length := by
          have := congrArg List.length hsp
          rw [List.length_append, List.length_cons] at this
          omega
        have hlen0 : ((K ++ K0).length : Int) = K.length + K0.length := by rw [List.length_append]; push_cast; rfl
        have K43 : V D C m_mo_goesOn 43 [vr D 219, u] [] (Zg g h) F1 := by
          have hw2 : wS (q_up F1 219 2 (p + 1)) (tkm K ++ (tmk K :: drm K) ++ K0) := by
            rw [← hsp]; exact hM1.2.1.fr (fun j k hj => q_up_ne (by omega))
          have hl2 : rcS (q_up F1 219 2 (p + 1)) L := hM1.2.2.1.fr (fun j k hj => q_up_ne (by omega))
          have hn2 : (L.length : Int) + (tkm K ++ (tmk K :: drm K) ++ K0).length ≤ 1600 := by rw [← hsp]; omega
          have t2 := hM1.1.next (by decide) hA.1
          refine V_aload_0 d_mo_goesOn_43 ?_
          refine V_dup d_mo_goesOn_44 rfl ?_
          refine V_getI d_mo_goesOn_45 fl_mo_191 is_mo ?_
          rw [e1]
          refine V_iconst 1 d_mo_goesOn_48 ?_
          refine V_iadd d_mo_goesOn_49 ?_
          refine V_putI d_mo_goesOn_50 fl_mo_191 is_mo ?_
          refine V_aload_0 d_mo_goesOn_53 ?_
          refine V_cvV0 d_mo_goesOn_54 ml_mo_362 mv_mo_dropsToMark (by decide) (Nat.le_of_ble_eq_true rfl) is_mo (ok_dropsToMark (tkm_no K) hmk hw2 (by rw [q_up_ne (Or.inr (by decide))]; exact hb1) hl2 hn2) ?_
          rintro F3 ⟨w3, c3, k3⟩
          have w3' : wS F3 (tmk K :: (drm K ++ K0)) := w3
          obtain ⟨g1, g2, g3⟩ := w3'.top
          have hlen3 : ((drm K ++ K0).length : Int) = (drm K).length + K0.length := by rw [List.length_append]; push_cast; rfl
          have g4 : F3 219 51 = o := by rw [k3 _ _ (by decide) (by decide), q_up_ne (Or.inr (by decide))]; exact hM1.2.2.2.1
          have e50 : (((drm K ++ K0).length : Nat) : Int) + 1 - 1 = (drm K ++ K0).length := by omega
          have w4 : ∀ y, wS (q_up (q_up F3 219 50 (drm K ++ K0).length) 219 51 y) (drm K ++ K0) := fun y => w3'.pop (by rw [q_up_ne (Or.inr (by decide)), q_up_eq]) (fun k => by rw [q_up_at (by decide), q_up_at (by decide)])
          have g5 : ∀ y, (q_up (q_up F3 219 50 (drm K ++ K0).length) 219 51 y) 256 (drm K ++ K0).length = tmk K := fun y => by rw [q_up_at (by decide), q_up_at (by decide)]; exact g2
          have g6 : ∀ y, (q_up (q_up F3 219 50 (drm K ++ K0).length) 219 51 y) 219 50 = (drm K ++ K0).length := fun y => by rw [q_up_ne (Or.inr (by decide)), q_up_eq]
          have t4 : ∀ y, mpS (q_up (q_up F3 219 50 (drm K ++ K0).length) 219 51 y) T N (.inr (sk T N (p + 1), e)) := fun y => t2.fr (fun j k hj => by rw [q_up_ne (by omega), q_up_ne (by omega), k3 j k (by omega) (by omega)])
          have c4 : ∀ y, rcS (q_up (q_up F3 219 50 (drm K ++ K0).length) 219 51 y) (L ++ tkm K) := fun y => c3.fr (fun j k hj => by rw [q_up_ne (by omega), q_up_ne (by omega)])
          have q4 : ∀ y, mQ f (q_up (q_up F3 219 50 (drm K ++ K0).length) 219 51 y) := fun y => hq1.tr (fun j k a b c => by rw [q_up_ne (by omega), q_up_ne (by omega), k3 j k b (by omega), q_up_ne (by omega)])
          refine V_aload_0 d_mo_goesOn_57 ?_
          refine V_dup d_mo_goesOn_58 rfl ?_
          refine V_getI d_mo_goesOn_59 fl_mo_277 is_mo ?_
          rw [g1]
          refine V_iconst 1 d_mo_goesOn_62 ?_
          refine V_isub d_mo_goesOn_63 ?_
          rw [e50]
          refine V_putI d_mo_goesOn_64 fl_mo_277 is_mo ?_
          refine V_aload_0 d_mo_goesOn_67 ?_
          refine V_dup d_mo_goesOn_68 rfl ?_
          refine V_getI d_mo_goesOn_69 fl_mo_280 is_mo ?_
          rw [q_up_ne (Or.inr (by decide)), g4]
          refine V_iconst 1 d_mo_goesOn_72 ?_
          refine V_isub d_mo_goesOn_73 ?_
          refine V_putI d_mo_goesOn_74 fl_mo_280 is_mo ?_
          refine V_aload_0 d_mo_goesOn_77 ?_
          refine V_getR d_mo_goesOn_78 fl_mo_124 is_mo r_mo_wait ?_
          refine V_aload_0 d_mo_goesOn_81 ?_
          refine V_getI d_mo_goesOn_82 fl_mo_277 is_mo ?_
          rw [g6]
          refine V_iald d_mo_goesOn_85 is_mo_wait (by omega) (by omega) ?_
          rw [g5]
          refine V_bipush 20 d_mo_goesOn_86 (by decide) ?_
          refine V_icmp_eq 0 d_mo_goesOn_88 (by decide) (by omega) (by omega) (fun c88 => ?_) (fun c88 => ?_)
          · skip
            rw [if_pos (by omega)] at hch
            refine ih (drm K) _ (o - 1) _ _ _ _ hch (by omega) ⟨t4 _, w4 _, ?_, q_up_eq _ _ _ _, ?_⟩ (by omega) (by omega) (q4 _)
            · rw [List.append_nil]; exact c4 _
            · rw [List.append_nil, List.length_append]; push_cast; omega
          · skip
            refine V_aload_0 d_mo_goesOn_91 ?_
            refine V_aload_0 d_mo_goesOn_92 ?_
            refine V_getR d_mo_goesOn_93 fl_mo_124 is_mo r_mo_wait ?_
            refine V_aload_0 d_mo_goesOn_96 ?_
            refine V_getI d_mo_goesOn_97 fl_mo_277 is_mo ?_
            rw [g6]
            refine V_iald d_mo_goesOn_100 is_mo_wait (by omega) (by omega) ?_
            rw [g5]
            refine V_bipush 23 d_mo_goesOn_101 (by decide) ?_
            refine V_icmp_ne 110 d_mo_goesOn_103 (by decide) (by omega) (by omega) (fun c103 => ?_) (fun c103 => ?_)
            · skip
              refine V_bipush 6 d_mo_goesOn_110 (by decide) ?_
              refine V_cvV1 d_mo_goesOn_112 ml_mo_347 mv_mo_code (by decide) (Nat.le_of_ble_eq_true rfl) is_mo (ok_code (c4 _) (by rw [List.length_append]; push_cast; omega)) ?_
              rintro F6 ⟨c6, k6⟩
              refine V_goto 0 d_mo_goesOn_115 (by decide) ?_
              rw [if_neg (by omega), if_neg (by omega)] at hch
              refine ih (drm K) _ (o - 1) _ _ F6 _ hch (by omega) ⟨(t4 _).fr (fun j k hj => k6 j k (by omega) (by omega)), (w4 _).fr (fun j k hj => k6 j k (by omega) (by omega)), c6, by rw [k6 _ _ (by decide) (by decide)]; exact q_up_eq _ _ _ _, ?_⟩ (by omega) (by omega) ((q4 _).tr (fun j k a b c => k6 j k b (by omega)))
              rw [List.length_append, List.length_append, List.length_cons, List.length_nil]; push_cast; omega
            · skip
              refine V_iconst 5 d_mo_goesOn_106 ?_
              refine V_goto 112 d_mo_goesOn_107 (by decide) ?_
              refine V_cvV1 d_mo_goesOn_112 ml_mo_347 mv_mo_code (by decide) (Nat.le_of_ble_eq_true rfl) is_mo (ok_code (c4 _) (by rw [List.length_append]; push_cast; omega)) ?_
              rintro F6 ⟨c6, k6⟩
              refine V_goto 0 d_mo_goesOn_115 (by decide) ?_
              rw [if_neg (by omega), if_pos (by omega)] at hch
              refine ih (drm K) _ (o - 1) _ _ F6 _ hch (by omega) ⟨(t4 _).fr (fun j k hj => k6 j k (by omega) (by omega)), (w4 _).fr (fun j k hj => k6 j k (by omega) (by omega)), c6, by rw [k6 _ _ (by decide) (by decide)]; exact q_up_eq _ _ _ _, ?_⟩ (by omega) (by omega) ((q4 _).tr (fun j k a b c => k6 j k b (by omega)))
              rw [List.length_append, List.length_append, List.length_cons, List.length_nil]; push_cast; omega
        refine V_aload_0 d_mo_goesOn_0 ?_
        refine V_getI d_mo_goesOn_1 fl_mo_185 is_mo ?_
        rw [hb5]
        refine V_if_ne 118 d_mo_goesOn_4 (by decide) (by omega) (fun c4 => by omega) (fun c4 => ?_)
        refine V_aload_0 d_mo_goesOn_7 ?_
        refine V_cvI0 d_mo_goesOn_8 ml_mo_197 mv_mo_look (by decide) (Nat.le_of_ble_eq_true rfl) is_mo (ok_look hM.1) ?_
        rintro _ f2 ⟨rfl, e2⟩
        rw [e2]; clear e2 f2
        rw [hF1]
        refine V_bipush 41 d_mo_goesOn_11 (by decide) ?_
        refine V_icmp_ne 118 d_mo_goesOn_13 (by decide) (by omega) (by omega) (fun c13 => by omega) (fun c13 => ?_)
        refine V_aload_0 d_mo_goesOn_16 ?_
        refine V_cvI0 d_mo_goesOn_17 ml_mo_359 mv_mo_mark (by decide) (Nat.le_of_ble_eq_true rfl) is_mo (okm) ?_
        rintro _ f2 ⟨rfl, e2⟩
        rw [e2]; clear e2 f2
        refine V_bipush 20 d_mo_goesOn_20 (by decide) ?_
        refine V_icmp_eq 43 d_mo_goesOn_22 (by decide) (by omega) (by omega) (fun c22 => ?_) (fun c22 => ?_)
        · skip
          exact K43
        · skip
          refine V_aload_0 d_mo_goesOn_25 ?_
          refine V_cvI0 d_mo_goesOn_26 ml_mo_359 mv_mo_mark (by decide) (Nat.le_of_ble_eq_true rfl) is_mo (okm) ?_
          rintro _ f2 ⟨rfl, e2⟩
          rw [e2]; clear e2 f2
          refine V_bipush 23 d_mo_goesOn_29 (by decide) ?_
          refine V_icmp_eq 43 d_mo_goesOn_31 (by decide) (by omega) (by omega) (fun c31 => ?_) (fun c31 => ?_)
          · skip
            exact K43
          · skip
            refine V_aload_0 d_mo_goesOn_34 ?_
            refine V_cvI0 d_mo_goesOn_35 ml_mo_359 mv_mo_mark (by decide) (Nat.le_of_ble_eq_true rfl) is_mo (okm) ?_
            rintro _ f2 ⟨rfl, e2⟩
            rw [e2]; clear e2 f2
            refine V_bipush 24 d_mo_goesOn_38 (by decide) ?_
            refine V_icmp_ne 118 d_mo_goesOn_40 (by decide) (by omega) (by omega) (fun c40 => by omega) (fun c40 => ?_)
            exact K43
      · rw [if_neg hA] at hch
        have KP : ∀ (y : Int) (M : List Int) (L' : List Int) (F5 : q_F) (q d : Int), wS F5 (M ++ K0) → rcS F5 L' → mpS F5 T N (.inr (q, d)) → F5 219 51 = o → (L'.length : Int) + (M ++ K0).length + 1 ≤ q → (0 ≤ y ∧ y ≤ 4) → nMk M = nMk K → mch T N m true (y :: M) L' o q d = some X → mQ f F5 → mSt (q_up (q_up F5 256 (M ++ K0).length y) 219 50 ((M ++ K0).length + 1)) T N true K0 o0 n X ∧ mQ f (q_up (q_up F5 256 (M ++ K0).length y) 219 50 ((M ++ K0).length + 1)) := by
          intro y M L' F5 q d w5 c5 t5 o5 l5 hy hnM hch5 q5
          refine ⟨⟨m, y :: M, L', o, q, d, by omega, hch5, ⟨t5.fr (fun j k hj => by rw [q_up_ne (by omega), q_up_at (by omega)]), w5.push (by omega) (q_up_eq _ _ _ _) (by rw [q_up_at (by decide), q_up_eq]) (fun k hk => by rw [q_up_at (by decide), q_up_ne (Or.inr hk)]), c5.fr (fun j k hj => by rw [q_up_ne (by omega), q_up_at (by omega)]), by rw [q_up_ne (Or.inr (by decide)), q_up_at (by decide)]; exact o5, ?_⟩, ?_, ho6⟩, q5.tr (fun j k a b c => by rw [q_up_ne (by omega), q_up_at c])⟩
          · rw [List.cons_append, List.length_cons]; push_cast; omega
          · show o = o0 + ((if isMk y then 1 else 0) + nMk M)
            have : isMk y = false := by unfold isMk; rw [decide_eq_false_iff_not]; omega
            rw [this, hnM]; simp; exact ho
        have K158 : ∀ (y : Int) (U L' : List Int) (M : List Int) (F5 : q_F) (q d : Int), (∀ x ∈ U, isMu x = true) → topN isMu (M ++ K0) → wS F5 (U ++ (M ++ K0)) → rcS F5 L' → mpS F5 T N (.inr (q, d)) → F5 219 51 = o → (L'.length : Int) + (U ++ (M ++ K0)).length + 1 ≤ q → (0 ≤ y ∧ y ≤ 4) → nMk M = nMk K → mch T N m true (y :: M) (L' ++ U) o q d = some X → mQ f F5 → V D C m_mo_goesOn 158 [vr D 219, vi y] [] (Zg g h) F5 := by
          intro y U
          induction U with
          | nil =>
            intro L' M F5 q d hU htp w5 c5 t5 o5 l5 hy hnM hch5 q5
            have hq16 := t5.pr
            rw [List.nil_append] at w5 l5
            rw [List.append_nil] at hch5
            obtain ⟨s1, s2⟩ := KP y M L' F5 q d w5 c5 t5 o5 l5 hy hnM hch5 q5
            have hw50 := w5.1
            refine V_aload_0 d_mo_goesOn_158 ?_
            refine V_iconst 3 d_mo_goesOn_159 ?_
            refine V_cvI1 d_mo_goesOn_160 ml_mo_365 mv_mo_isOn (by decide) (Nat.le_of_ble_eq_true rfl) is_mo (ok_isOn w5 (by omega) (by decide)) ?_
            rintro x160 f2 ⟨hx160, e2⟩
            rw [e2]; clear e2 f2
            refine V_if_ne 174 d_mo_goesOn_163 (by decide) (by rcases hx160 with h | h <;> omega) (fun c163 => ?_) (fun c163 => ?_)
            · skip
              exact absurd (q_b1 hx160 (by omega)) (topN_no htp (by decide))
            · skip
              refine V_aload_0 d_mo_goesOn_166 ?_
              refine V_iconst 4 d_mo_goesOn_167 ?_
              refine V_cvI1 d_mo_goesOn_168 ml_mo_365 mv_mo_isOn (by decide) (Nat.le_of_ble_eq_true rfl) is_mo (ok_isOn w5 (by omega) (by decide)) ?_
              rintro x168 f2 ⟨hx168, e2⟩
              rw [e2]; clear e2 f2
              refine V_if_eq 181 d_mo_goesOn_171 (by decide) (by rcases hx168 with h | h <;> omega) (fun c171 => ?_) (fun c171 => ?_)
              · skip
                refine V_aload_0 d_mo_goesOn_181 ?_
                refine V_getR d_mo_goesOn_182 fl_mo_124 is_mo r_mo_wait ?_
                refine V_aload_0 d_mo_goesOn_185 ?_
                refine V_getI d_mo_goesOn_186 fl_mo_277 is_mo ?_
                rw [hw50]
                refine V_iload_1 d_mo_goesOn_189 ?_
                refine V_iast d_mo_goesOn_190 is_mo_wait (by omega) (by omega) ?_
                refine V_aload_0 d_mo_goesOn_191 ?_
                refine V_dup d_mo_goesOn_192 rfl ?_
                refine V_getI d_mo_goesOn_193 fl_mo_277 is_mo ?_
                rw [q_up_at (by decide), hw50]
                refine V_iconst 1 d_mo_goesOn_196 ?_
                refine V_iadd d_mo_goesOn_197 ?_
                refine V_putI d_mo_goesOn_198 fl_mo_277 is_mo ?_
                refine V_iconst 1 d_mo_goesOn_201 ?_
                refine V_ireturn d_mo_goesOn_202 (hR _ _ (by decide) ?_)
                exact ⟨Or.inl ⟨rfl, s1⟩, s2⟩
              · skip
                exact absurd (q_b1 hx168 (by omega)) (topN_no htp (by decide))
          | cons x U ihU =>
            intro L' M F5 q d hU htp w5 c5 t5 o5 l5 hy hnM hch5 q5
            have hq16 := t5.pr
            have hx := isMu_3.mp (hU x (List.mem_cons_self ..))
            have w5' : wS F5 (x :: (U ++ (M ++ K0))) := w5
            have l5' : (L'.length : Int) + ((U ++ (M ++ K0)).length + 1) + 1 ≤ q := by
              rw [List.cons_append, List.length_cons] at l5; push_cast at l5; omega
            have KD : V D C m_mo_goesOn 174 [vr D 219, vi y] [] (Zg g h) F5 := by
              refine V_aload_0 d_mo_goesOn_174 ?_
              refine V_cvV0 d_mo_goesOn_175 ml_mo_353 mv_mo_drops (by decide) (Nat.le_of_ble_eq_true rfl) is_mo (ok_drops w5' c5 (by omega) (by omega)) ?_
              rintro F6 ⟨w6, c6, k6⟩
              refine V_goto 158 d_mo_goesOn_178 (by decide) ?_
              refine ihU (L' ++ [x]) M F6 q d (fun z hz => hU z (List.mem_cons_of_mem _ hz)) htp w6 c6 (t5.fr (fun j k hj => k6 j k (by omega) (by omega))) (by rw [k6 _ _ (by decide) (by decide)]; exact o5) ?_ hy hnM (by rw [List.append_assoc]; exact hch5) (q5.tr (fun j k a b c => k6 j k b (by omega)))
              rw [List.length_append, List.length_cons, List.length_nil]; push_cast; omega
            refine V_aload_0 d_mo_goesOn_158 ?_
            refine V_iconst 3 d_mo_goesOn_159 ?_
            refine V_cvI1 d_mo_goesOn_160 ml_mo_365 mv_mo_isOn (by decide) (Nat.le_of_ble_eq_true rfl) is_mo (ok_isOn w5' (by simp only [List.length_cons]; push_cast; omega) (by decide)) ?_
            rintro x160 f2 ⟨hx160, e2⟩
            rw [e2]; clear e2 f2
            refine V_if_ne 174 d_mo_goesOn_163 (by decide) (by rcases hx160 with h | h <;> omega) (fun c163 => ?_) (fun c163 => ?_)
            · skip
              exact KD
            · skip
              refine V_aload_0 d_mo_goesOn_166 ?_
              refine V_iconst 4 d_mo_goesOn_167 ?_
              refine V_cvI1 d_mo_goesOn_168 ml_mo_365 mv_mo_isOn (by decide) (Nat.le_of_ble_eq_true rfl) is_mo (ok_isOn w5' (by simp only [List.length_cons]; push_cast; omega) (by decide)) ?_
              rintro x168 f2 ⟨hx168, e2⟩
              rw [e2]; clear e2 f2
              refine V_if_eq 181 d_mo_goesOn_171 (by decide) (by rcases hx168 with h | h <;> omega) (fun c171 => ?_) (fun c171 => ?_)
              · skip
                exfalso
                rcases hx with h | h
                · exact q_b0 hx160 (by omega) ⟨_, by rw [h]⟩
                · exact q_b0 hx168 (by omega) ⟨_, by rw [h]⟩
              · skip
                exact KD
        have K243 : ∀ (y : Int) (U L' : List Int) (M : List Int) (F5 : q_F) (q d : Int), (∀ x ∈ U, isAr x = true) → topN isAr (M ++ K0) → wS F5 (U ++ (M ++ K0)) → rcS F5 L' → mpS F5 T N (.inr (q, d)) → F5 219 51 = o → (L'.length : Int) + (U ++ (M ++ K0)).length + 1 ≤ q → (0 ≤ y ∧ y ≤ 4) → nMk M = nMk K → mch T N m true (y :: M) (L' ++ U) o q d = some X → mQ f F5 → V D C m_mo_goesOn 243 [vr D 219, vi y] [] (Zg g h) F5 := by
          intro y U
          induction U with
          | nil =>
            intro L' M F5 q d hU htp w5 c5 t5 o5 l5 hy hnM hch5 q5
            have hq16 := t5.pr
            rw [List.nil_append] at w5 l5
            rw [List.append_nil] at hch5
            obtain ⟨s1, s2⟩ := KP y M L' F5 q d w5 c5 t5 o5 l5 hy hnM hch5 q5
            have hw50 := w5.1
            refine V_aload_0 d_mo_goesOn_243 ?_
            refine V_iconst 3 d_mo_goesOn_244 ?_
            refine V_cvI1 d_mo_goesOn_245 ml_mo_365 mv_mo_isOn (by decide) (Nat.le_of_ble_eq_true rfl) is_mo (ok_isOn w5 (by omega) (by decide)) ?_
            rintro x245 f2 ⟨hx245, e2⟩
            rw [e2]; clear e2 f2
            refine V_if_ne 275 d_mo_goesOn_248 (by decide) (by rcases hx245 with h | h <;> omega) (fun c248 => ?_) (fun c248 => ?_)
            · skip
              exact absurd (q_b1 hx245 (by omega)) (topN_no htp (by decide))
            · skip
              refine V_aload_0 d_mo_goesOn_251 ?_
              refine V_iconst 4 d_mo_goesOn_252 ?_
              refine V_cvI1 d_mo_goesOn_253 ml_mo_365 mv_mo_isOn (by decide) (Nat.le_of_ble_eq_true rfl) is_mo (ok_isOn w5 (by omega) (by decide)) ?_
              rintro x253 f2 ⟨hx253, e2⟩
              rw [e2]; clear e2 f2
              refine V_if_ne 275 d_mo_goesOn_256 (by decide) (by rcases hx253 with h | h <;> omega) (fun c256 => ?_) (fun c256 => ?_)
              · skip
                exact absurd (q_b1 hx253 (by omega)) (topN_no htp (by decide))
              · skip
                refine V_aload_0 d_mo_goesOn_259 ?_
                refine V_iconst 1 d_mo_goesOn_260 ?_
                refine V_cvI1 d_mo_goesOn_261 ml_mo_365 mv_mo_isOn (by decide) (Nat.le_of_ble_eq_true rfl) is_mo (ok_isOn w5 (by omega) (by decide)) ?_
                rintro x261 f2 ⟨hx261, e2⟩
                rw [e2]; clear e2 f2
                refine V_if_ne 275 d_mo_goesOn_264 (by decide) (by rcases hx261 with h | h <;> omega) (fun c264 => ?_) (fun c264 => ?_)
                · skip
                  exact absurd (q_b1 hx261 (by omega)) (topN_no htp (by decide))
                · skip
                  refine V_aload_0 d_mo_goesOn_267 ?_
                  refine V_iconst 2 d_mo_goesOn_268 ?_
                  refine V_cvI1 d_mo_goesOn_269 ml_mo_365 mv_mo_isOn (by decide) (Nat.le_of_ble_eq_true rfl) is_mo (ok_isOn w5 (by omega) (by decide)) ?_
                  rintro x269 f2 ⟨hx269, e2⟩
                  rw [e2]; clear e2 f2
                  refine V_if_eq 282 d_mo_goesOn_272 (by decide) (by rcases hx269 with h | h <;> omega) (fun c272 => ?_) (fun c272 => ?_)
                  · skip
                    refine V_aload_0 d_mo_goesOn_282 ?_
                    refine V_getR d_mo_goesOn_283 fl_mo_124 is_mo r_mo_wait ?_
                    refine V_aload_0 d_mo_goesOn_286 ?_
                    refine V_getI d_mo_goesOn_287 fl_mo_277 is_mo ?_
                    rw [hw50]
                    refine V_iload_1 d_mo_goesOn_290 ?_
                    refine V_iast d_mo_goesOn_291 is_mo_wait (by omega) (by omega) ?_
                    refine V_aload_0 d_mo_goesOn_292 ?_
                    refine V_dup d_mo_goesOn_293 rfl ?_
                    refine V_getI d_mo_goesOn_294 fl_mo_277 is_mo ?_
                    rw [q_up_at (by decide), hw50]
                    refine V_iconst 1 d_mo_goesOn_297 ?_
                    refine V_iadd d_mo_goesOn_298 ?_
                    refine V_putI d_mo_goesOn_299 fl_mo_277 is_mo ?_
                    refine V_iconst 1 d_mo_goesOn_302 ?_
                    refine V_ireturn d_mo_goesOn_303 (hR _ _ (by decide) ?_)
                    exact ⟨Or.inl ⟨rfl, s1⟩, s2⟩
                  · skip
                    exact absurd (q_b1 hx269 (by omega)) (topN_no htp (by decide))
          | cons x U ihU =>
            intro L' M F5 q d hU htp w5 c5 t5 o5 l5 hy hnM hch5 q5
            have hq16 := t5.pr
            have hx := isAr_4.mp (hU x (List.mem_cons_self ..))
            have w5' : wS F5 (x :: (U ++ (M ++ K0))) := w5
            have l5' : (L'.length : Int) + ((U ++ (M ++ K0)).length + 1) + 1 ≤ q := by
              rw [List.cons_append, List.length_cons] at l5; push_cast at l5; omega
            have KD : V D C m_mo_goesOn 275 [vr D 219, vi y] [] (Zg g h) F5 := by
              refine V_aload_0 d_mo_goesOn_275 ?_
              refine V_cvV0 d_mo_goesOn_276 ml_mo_353 mv_mo_drops (by decide) (Nat.le_of_ble_eq_true rfl) is_mo (ok_drops w5' c5 (by omega) (by omega)) ?_
              rintro F6 ⟨w6, c6, k6⟩
              refine V_goto 243 d_mo_goesOn_279 (by decide) ?_
              refine ihU (L' ++ [x]) M F6 q d (fun z hz => hU z (List.mem_cons_of_mem _ hz)) htp w6 c6 (t5.fr (fun j k hj => k6 j k (by omega) (by omega))) (by rw [k6 _ _ (by decide) (by decide)]; exact o5) ?_ hy hnM (by rw [List.append_assoc]; exact hch5) (q5.tr (fun j k a b c => k6 j k b (by omega)))
              rw [List.length_append, List.length_cons, List.length_nil]; push_cast; omega
            refine V_aload_0 d_mo_goesOn_243 ?_
            refine V_iconst 3 d_mo_goesOn_244 ?_
            refine V_cvI1 d_mo_goesOn_245 ml_mo_365 mv_mo_isOn (by decide) (Nat.le_of_ble_eq_true rfl) is_mo (ok_isOn w5' (by simp only [List.length_cons]; push_cast; omega) (by decide)) ?_
            rintro x245 f2 ⟨hx245, e2⟩
            rw [e2]; clear e2 f2
            refine V_if_ne 275 d_mo_goesOn_248 (by decide) (by rcases hx245 with h | h <;> omega) (fun c248 => ?_) (fun c248 => ?_)
            · skip
              exact KD
            · skip
              refine V_aload_0 d_mo_goesOn_251 ?_
              refine V_iconst 4 d_mo_goesOn_252 ?_
              refine V_cvI1 d_mo_goesOn_253 ml_mo_365 mv_mo_isOn (by decide) (Nat.le_of_ble_eq_true rfl) is_mo (ok_isOn w5' (by simp only [List.length_cons]; push_cast; omega) (by decide)) ?_
              rintro x253 f2 ⟨hx253, e2⟩
              rw [e2]; clear e2 f2
              refine V_if_ne 275 d_mo_goesOn_256 (by decide) (by rcases hx253 with h | h <;> omega) (fun c256 => ?_) (fun c256 => ?_)
              · skip
                exact KD
              · skip
                refine V_aload_0 d_mo_goesOn_259 ?_
                refine V_iconst 1 d_mo_goesOn_260 ?_
                refine V_cvI1 d_mo_goesOn_261 ml_mo_365 mv_mo_isOn (by decide) (Nat.le_of_ble_eq_true rfl) is_mo (ok_isOn w5' (by simp only [List.length_cons]; push_cast; omega) (by decide)) ?_
                rintro x261 f2 ⟨hx261, e2⟩
                rw [e2]; clear e2 f2
                refine V_if_ne 275 d_mo_goesOn_264 (by decide) (by rcases hx261 with h | h <;> omega) (fun c264 => ?_) (fun c264 => ?_)
                · skip
                  exact KD
                · skip
                  refine V_aload_0 d_mo_goesOn_267 ?_
                  refine V_iconst 2 d_mo_goesOn_268 ?_
                  refine V_cvI1 d_mo_goesOn_269 ml_mo_365 mv_mo_isOn (by decide) (Nat.le_of_ble_eq_true rfl) is_mo (ok_isOn w5' (by simp only [List.length_cons]; push_cast; omega) (by decide)) ?_
                  rintro x269 f2 ⟨hx269, e2⟩
                  rw [e2]; clear e2 f2
                  refine V_if_eq 282 d_mo_goesOn_272 (by decide) (by rcases hx269 with h | h <;> omega) (fun c272 => ?_) (fun c272 => ?_)
                  · skip
                    exfalso
                    rcases hx with h | h | h | h
                    · exact q_b0 hx245 (by omega) ⟨_, by rw [h]⟩
                    · exact q_b0 hx253 (by omega) ⟨_, by rw [h]⟩
                    · exact q_b0 hx261 (by omega) ⟨_, by rw [h]⟩
                    · exact q_b0 hx269 (by omega) ⟨_, by rw [h]⟩
                  · skip
                    exact KD
        have hlen0 : ((K ++ K0).length : Int) = K.length + K0.length := by rw [List.length_append]; push_cast; rfl
        by_cases hMu : lk T N p = 42 ∨ lk T N p = 47
        · rw [if_pos hMu] at hch
          have hpN : p < N := by rcases hMu with h | h <;> exact (lk_of (by decide) h).1
          have hTp : T p = lk T N p := by unfold lk; rw [if_pos hpN]
          have hsk := sk_ge (T := T) hpN
          have K136 : ∀ F2 : q_F, mpS F2 T N (.inr (sk T N (p + 1), e)) → mK F1 F2 → F2 219 2 = p + 1 → V D C m_mo_goesOn 136 [vr D 219, u] [] (Zg g h) F2 := by
            intro F2 t2 k2 e2
            have eb : F2 220 p = T p := t2.2.2.1 p hrg.1 hpN
            have hspl : K.takeWhile isMu ++ K.dropWhile isMu = K := List.takeWhile_append_dropWhile
            have hM2 := hM1.mk k2 t2 (by omega)
            have w2 : wS F2 (K.takeWhile isMu ++ (K.dropWhile isMu ++ K0)) := by rw [← List.append_assoc, hspl]; exact hM2.2.1
            have l2 : (L.length : Int) + (K.takeWhile isMu ++ (K.dropWhile isMu ++ K0)).length + 1 ≤ sk T N (p + 1) := by rw [← List.append_assoc, hspl]; omega
            have fin := fun y hy hch2 => K158 y (K.takeWhile isMu) L (K.dropWhile isMu) F2 _ _ (tw_all isMu K) (topN_app (dw_top isMu K) (topN_mu ht0)) w2 hM2.2.2.1 t2 hM2.2.2.2.1 l2 hy (nMk_dw (fun x hx => by rw [isMu_3] at hx; unfold isMk; rw [decide_eq_false_iff_not]; omega) K) hch2 (hq1.tr k2.q)
            refine V_aload_0 d_mo_goesOn_136 ?_
            refine V_getR d_mo_goesOn_137 fl_mo_7 is_mo r_mo_tape ?_
            refine V_aload_0 d_mo_goesOn_140 ?_
            refine V_getI d_mo_goesOn_141 fl_mo_191 is_mo ?_
            rw [e2]
            refine V_iconst 1 d_mo_goesOn_144 ?_
            refine V_isub d_mo_goesOn_145 ?_
            rw [show p + 1 - 1 = p by omega]
            refine V_iald d_mo_goesOn_146 is_mo_tape (by omega) (by omega) ?_
            rw [eb, hTp]
            refine V_bipush 42 d_mo_goesOn_147 (by decide) ?_
            refine V_icmp_ne 156 d_mo_goesOn_149 (by decide) (by omega) (by omega) (fun c149 => ?_) (fun c149 => ?_)
            · skip
              refine V_iconst 4 d_mo_goesOn_156 ?_
              refine V_istore_1 d_mo_goesOn_157 rfl ?_
              refine fin _ (by decide) ?_
              have h47 : lk T N p = 47 := by omega
              have : opc (lk T N p) = 4 := by rw [h47]; rfl
              rw [this] at hch; exact hch
            · skip
              refine V_iconst 3 d_mo_goesOn_152 ?_
              refine V_goto 157 d_mo_goesOn_153 (by decide) ?_
              refine V_istore_1 d_mo_goesOn_157 rfl ?_
              refine fin _ (by decide) ?_
              have : opc (lk T N p) = 3 := by rw [show lk T N p = 42 by omega]; rfl
              rw [this] at hch; exact hch
          have K118 : V D C m_mo_goesOn 118 [vr D 219, u] [] (Zg g h) F1 := by
            refine V_aload_0 d_mo_goesOn_118 ?_
            refine V_bipush 42 d_mo_goesOn_119 (by decide) ?_
            refine V_cvI1 d_mo_goesOn_121 ml_mo_219 mv_mo_takesSign (by decide) (Nat.le_of_ble_eq_true rfl) is_mo (ok_takesSign hM1.1 (by decide)) ?_
            rintro x2 F2 ⟨hx2, t2, k2, a2⟩
            have a2 := a2 p e rfl
            refine V_if_ne 136 d_mo_goesOn_124 (by decide) (by rcases hx2 with h | h <;> omega) (fun c124 => ?_) (fun c124 => ?_)
            · skip
              have hl : lk T N p = 42 := of_decide_eq_true (q_b1 hx2 c124)
              rw [if_pos hl] at a2
              have t3 : mpS F2 T N (.inr (sk T N (p + 1), e)) := by
                have : tks T N 42 (.inr (p, e)) = .inr (sk T N (p + 1), e) := if_pos hl
                rw [this] at t2; exact t2
              exact K136 F2 t3 k2 a2
            · skip
              have hl : ¬ lk T N p = 42 := fun h => q_b0 hx2 c124 (decide_eq_true h)
              have hl47 : lk T N p = 47 := by omega
              have t3 : mpS F2 T N (.inr (p, e)) := by
                have : tks T N 42 (.inr (p, e)) = .inr (p, e) := if_neg hl
                rw [this] at t2; exact t2
              refine V_aload_0 d_mo_goesOn_127 ?_
              refine V_bipush 47 d_mo_goesOn_128 (by decide) ?_
              refine V_cvI1 d_mo_goesOn_130 ml_mo_219 mv_mo_takesSign (by decide) (Nat.le_of_ble_eq_true rfl) is_mo (ok_takesSign t3 (by decide)) ?_
              rintro x4 F4 ⟨hx4, t4, k4, a4⟩
              have a4 := a4 p e rfl
              rw [if_pos hl47] at a4
              have t5 : mpS F4 T N (.inr (sk T N (p + 1), e)) := by
                have : tks T N 47 (.inr (p, e)) = .inr (sk T N (p + 1), e) := if_pos hl47
                rw [this] at t4; exact t4
              refine V_if_eq 203 d_mo_goesOn_133 (by decide) (by rcases hx4 with h | h <;> omega) (fun c133 => ?_) (fun c133 => ?_)
              · skip
                exact absurd (decide_eq_true hl47) (q_b0 hx4 c133)
              · skip
                exact K136 F4 t5 (k2.tr k4) a4
          refine V_aload_0 d_mo_goesOn_0 ?_
          refine V_getI d_mo_goesOn_1 fl_mo_185 is_mo ?_
          rw [hb5]
          refine V_if_ne 118 d_mo_goesOn_4 (by decide) (by omega) (fun c4 => by omega) (fun c4 => ?_)
          refine V_aload_0 d_mo_goesOn_7 ?_
          refine V_cvI0 d_mo_goesOn_8 ml_mo_197 mv_mo_look (by decide) (Nat.le_of_ble_eq_true rfl) is_mo (ok_look hM.1) ?_
          rintro _ f2 ⟨rfl, e2⟩
          rw [e2]; clear e2 f2
          rw [hF1]
          refine V_bipush 41 d_mo_goesOn_11 (by decide) ?_
          refine V_icmp_ne 118 d_mo_goesOn_13 (by decide) (by omega) (by omega) (fun c13 => ?_) (fun c13 => by omega)
          exact K118
        · rw [if_neg hMu] at hch
          have n42 : ∀ (F2 : q_F) (c : Int), (0 ≤ c ∧ c < 2147483648) → ¬ lk T N p = c → mpS F2 T N (.inr (p, e)) → OkI D m_mo_takesSign [vr D 219, vi c] (Zg g h) F2 (fun x f' => x = 0 ∧ mpS f' T N (.inr (p, e)) ∧ mK F2 f' ∧ f' 219 2 = p) := by
            intro F2 c hc hl t2
            refine (ok_takesSign t2 hc).mn (fun x f' hx => ?_)
            obtain ⟨h1, h2, h3, h4⟩ := hx
            have : tks T N c (.inr (p, e)) = .inr (p, e) := if_neg hl
            rw [this] at h2
            have h5 := h4 p e rfl
            rw [if_neg hl] at h5
            refine ⟨?_, h2, h3, h5⟩
            rcases h1 with ⟨a, b⟩ | ⟨a, b⟩
            · exact absurd (of_decide_eq_true b) hl
            · exact a
          have K203 : ∀ F2 : q_F, mpS F2 T N (.inr (p, e)) → mK F1 F2 → F2 219 2 = p → V D C m_mo_goesOn 203 [vr D 219, u] [] (Zg g h) F2 := by
            intro F2 t2 k2 e2
            have hM2 := hM1.mk k2 t2 (Int.le_refl _)
            have q2 := hq1.tr k2.q
            by_cases hAd : lk T N p = 43 ∨ lk T N p = 45
            · rw [if_pos hAd] at hch
              have hpN : p < N := by rcases hAd with h | h <;> exact (lk_of (by decide) h).1
              have hTp : T p = lk T N p := by unfold lk; rw [if_pos hpN]
              have hsk := sk_ge (T := T) hpN
              have K221 : ∀ F3 : q_F, mpS F3 T N (.inr (sk T N (p + 1), e)) → mK F1 F3 → F3 219 2 = p + 1 → V D C m_mo_goesOn 221 [vr D 219, u] [] (Zg g h) F3 := by
                intro F3 t3 k3 e3
                have eb : F3 220 p = T p := t3.2.2.1 p hrg.1 hpN
                have hspl : K.takeWhile isAr ++ K.dropWhile isAr = K := List.takeWhile_append_dropWhile
                have hM3 := hM1.mk k3 t3 (by omega)
                have w3 : wS F3 (K.takeWhile isAr ++ (K.dropWhile isAr ++ K0)) := by rw [← List.append_assoc, hspl]; exact hM3.2.1
                have l3 : (L.length : Int) + (K.takeWhile isAr ++ (K.dropWhile isAr ++ K0)).length + 1 ≤ sk T N (p + 1) := by rw [← List.append_assoc, hspl]; omega
                have fin := fun y hy hch2 => K243 y (K.takeWhile isAr) L (K.dropWhile isAr) F3 _ _ (tw_all isAr K) (topN_app (dw_top isAr K) ht0) w3 hM3.2.2.1 t3 hM3.2.2.2.1 l3 hy (nMk_dw (fun x hx => by rw [isAr_4] at hx; unfold isMk; rw [decide_eq_false_iff_not]; omega) K) hch2 (hq1.tr k3.q)
                refine V_aload_0 d_mo_goesOn_221 ?_
                refine V_getR d_mo_goesOn_222 fl_mo_7 is_mo r_mo_tape ?_
                refine V_aload_0 d_mo_goesOn_225 ?_
                refine V_getI d_mo_goesOn_226 fl_mo_191 is_mo ?_
                rw [e3]
                refine V_iconst 1 d_mo_goesOn_229 ?_
                refine V_isub d_mo_goesOn_230 ?_
                rw [show p + 1 - 1 = p by omega]
                refine V_iald d_mo_goesOn_231 is_mo_tape (by omega) (by omega) ?_
                rw [eb, hTp]
                refine V_bipush 43 d_mo_goesOn_232 (by decide) ?_
                refine V_icmp_ne 241 d_mo_goesOn_234 (by decide) (by omega) (by omega) (fun c234 => ?_) (fun c234 => ?_)
                · skip
                  refine V_iconst 2 d_mo_goesOn_241 ?_
                  refine V_istore_1 d_mo_goesOn_242 rfl ?_
                  refine fin _ (by decide) ?_
                  have : opc (lk T N p) = 2 := by rw [show lk T N p = 45 by omega]; rfl
                  rw [this] at hch; exact hch
                · skip
                  refine V_iconst 1 d_mo_goesOn_237 ?_
                  refine V_goto 242 d_mo_goesOn_238 (by decide) ?_
                  refine V_istore_1 d_mo_goesOn_242 rfl ?_
                  refine fin _ (by decide) ?_
                  have : opc (lk T N p) = 1 := by rw [show lk T N p = 43 by omega]; rfl
                  rw [this] at hch; exact hch
              refine V_aload_0 d_mo_goesOn_203 ?_
              refine V_bipush 43 d_mo_goesOn_204 (by decide) ?_
              refine V_cvI1 d_mo_goesOn_206 ml_mo_219 mv_mo_takesSign (by decide) (Nat.le_of_ble_eq_true rfl) is_mo (ok_takesSign t2 (by decide)) ?_
              rintro x2 F3 ⟨hx2, t3, k3, a3⟩
              have a3 := a3 p e rfl
              refine V_if_ne 221 d_mo_goesOn_209 (by decide) (by rcases hx2 with h | h <;> omega) (fun c209 => ?_) (fun c209 => ?_)
              · skip
                have hl : lk T N p = 43 := of_decide_eq_true (q_b1 hx2 c209)
                rw [if_pos hl] at a3
                have t4 : mpS F3 T N (.inr (sk T N (p + 1), e)) := by
                  have : tks T N 43 (.inr (p, e)) = .inr (sk T N (p + 1), e) := if_pos hl
                  rw [this] at t3; exact t3
                exact K221 F3 t4 (k2.tr k3) a3
              · skip
                have hl : ¬ lk T N p = 43 := fun h => q_b0 hx2 c209 (decide_eq_true h)
                have hl45 : lk T N p = 45 := by omega
                have t4 : mpS F3 T N (.inr (p, e)) := by
                  have : tks T N 43 (.inr (p, e)) = .inr (p, e) := if_neg hl
                  rw [this] at t3; exact t3
                refine V_aload_0 d_mo_goesOn_212 ?_
                refine V_bipush 45 d_mo_goesOn_213 (by decide) ?_
                refine V_cvI1 d_mo_goesOn_215 ml_mo_219 mv_mo_takesSign (by decide) (Nat.le_of_ble_eq_true rfl) is_mo (ok_takesSign t4 (by decide)) ?_
                rintro x4 F4 ⟨hx4, t5, k4, a4⟩
                have a4 := a4 p e rfl
                rw [if_pos hl45] at a4
                have t6 : mpS F4 T N (.inr (sk T N (p + 1), e)) := by
                  have : tks T N 45 (.inr (p, e)) = .inr (sk T N (p + 1), e) := if_pos hl45
                  rw [this] at t5; exact t5
                refine V_if_eq 304 d_mo_goesOn_218 (by decide) (by rcases hx4 with h | h <;> omega) (fun c218 => ?_) (fun c218 => ?_)
                · skip
                  exact absurd (decide_eq_true hl45) (q_b0 hx4 c218)
                · skip
                  exact K221 F4 t6 ((k2.tr k3).tr k4) a4
            · rw [if_neg hAd] at hch
              have K304 : ∀ F3 : q_F, mpS F3 T N (.inr (p, e)) → mK F1 F3 → F3 219 2 = p → V D C m_mo_goesOn 304 [vr D 219, u] [] (Zg g h) F3 := by
                intro F3 t3 k3 e3
                have hM3 := hM1.mk k3 t3 (Int.le_refl _)
                have q3 := hq1.tr k3.q
                have hb3 := hbq F3 q3
                have okm3 := ok_mark (D := D) (g := g) (h := h) hM3.2.1 hb3 (by omega)
                by_cases h21 : tmk K = 21 ∨ tmk K = 22
                · rw [if_pos h21] at hch
                  have hne : ¬ tmk K = -1 := by omega
                  have hsp := tkm_split K hne
                  have hmk : isMk (tmk K) = true := by unfold isMk; rw [decide_eq_true_iff]; omega
                  have hmk2 : isMk (tmk K + 2) = true := by unfold isMk; rw [decide_eq_true_iff]; omega
                  have hnd := nMk_drm K hne
                  have hlenK : (K.length : Int) = (tkm K).length + 1 + (drm K).length := by
                    have := congrArg List.length hsp
                    rw [List.length_append, List.length_cons] at this
                    omega
                  have K322 : V D C m_mo_goesOn 322 [vr D 219, u] [] (Zg g h) F3 := by
                    by_cases h44 : lk T N p = 44
                    · rw [if_pos h44] at hch
                      have hpN := (lk_of (by decide) h44).1
                      have hsk := sk_ge (T := T) hpN
                      have hsg : l_sign T N 44 p e = .inr (sk T N (p + 1), e) := by unfold l_sign; rw [if_pos h44]
                      have hn2 : (L.length : Int) + (tkm K ++ (tmk K :: drm K) ++ K0).length ≤ 1600 := by rw [← hsp]; omega
                      refine V_aload_0 d_mo_goesOn_322 ?_
                      refine V_bipush 44 d_mo_goesOn_323 (by decide) ?_
                      refine V_cvV1 d_mo_goesOn_325 ml_mo_260 mv_mo_asksSign (by decide) (Nat.le_of_ble_eq_true rfl) is_mo (ok_asksSign t3 (by decide)) ?_
                      rintro F4 ⟨t4, k4⟩
                      have t5 : mpS F4 T N (l_sign T N 44 p e) := t4
                      rw [hsg] at t5
                      have b4 := t5.2.2.2.1
                      have w4 : wS F4 (tkm K ++ (tmk K :: drm K) ++ K0) := by rw [← hsp]; exact hM3.2.1.fr (fun j k hj => k4 j k (by omega))
                      have c4 : rcS F4 L := hM3.2.2.1.fr (fun j k hj => k4 j k (by omega))
                      have q4 := q3.tr k4.q
                      refine V_aload_0 d_mo_goesOn_328 ?_
                      refine V_getI d_mo_goesOn_329 fl_mo_185 is_mo ?_
                      rw [b4]
                      refine V_if_eq 337 d_mo_goesOn_332 (by decide) (by omega) (fun c332 => ?_) (fun c332 => by omega)
                      refine V_aload_0 d_mo_goesOn_337 ?_
                      refine V_cvV0 d_mo_goesOn_338 ml_mo_362 mv_mo_dropsToMark (by decide) (Nat.le_of_ble_eq_true rfl) is_mo (ok_dropsToMark (tkm_no K) hmk w4 (hbq F4 q4) c4 hn2) ?_
                      rintro F5 ⟨w5, c5, k5⟩
                      have w5' : wS F5 (tmk K :: (drm K ++ K0)) := w5
                      obtain ⟨g1, g2, g3⟩ := w5'.top
                      have hlen5 : ((drm K ++ K0).length : Int) = (drm K).length + K0.length := by rw [List.length_append]; push_cast; rfl
                      refine V_aload_0 d_mo_goesOn_341 ?_
                      refine V_getR d_mo_goesOn_342 fl_mo_124 is_mo r_mo_wait ?_
                      refine V_aload_0 d_mo_goesOn_345 ?_
                      refine V_getI d_mo_goesOn_346 fl_mo_277 is_mo ?_
                      rw [g1]
                      refine V_iconst 1 d_mo_goesOn_349 ?_
                      refine V_isub d_mo_goesOn_350 ?_
                      rw [show (((drm K ++ K0).length : Nat) : Int) + 1 - 1 = (drm K ++ K0).length by omega]
                      refine V_dup2 d_mo_goesOn_351 rfl rfl ?_
                      refine V_iald d_mo_goesOn_352 is_mo_wait (by omega) (by omega) ?_
                      rw [g2]
                      refine V_iconst 2 d_mo_goesOn_353 ?_
                      refine V_iadd d_mo_goesOn_354 ?_
                      refine V_iast d_mo_goesOn_355 is_mo_wait (by omega) (by omega) ?_
                      refine V_iconst 1 d_mo_goesOn_356 ?_
                      refine V_ireturn d_mo_goesOn_357 (hR _ _ (by decide) ?_)
                      refine ⟨Or.inl ⟨rfl, m, (tmk K + 2) :: drm K, L ++ tkm K, o, _, _, by omega, hch, ⟨?_, ?_, ?_, ?_, ?_⟩, ?_, ho6⟩, ?_⟩
                      · exact t5.fr (fun j k hj => by rw [q_up_at (by omega), k5 j k (by omega) (by omega)])
                      · refine (w5'.pop (f' := q_up F5 219 50 (drm K ++ K0).length) (q_up_eq _ _ _ _) (fun k => q_up_at (by decide))).push (by omega) ?_ (q_up_eq _ _ _ _) (fun k hk => ?_)
                        · rw [q_up_at (by decide)]; exact g1
                        · rw [q_up_ne (Or.inr hk), q_up_at (by decide)]
                      · exact c5.fr (fun j k hj => q_up_at (by omega))
                      · rw [q_up_at (by decide), k5 _ _ (by decide) (by decide), k4 _ _ (by decide)]; exact hM3.2.2.2.1
                      · rw [List.length_append, List.cons_append, List.length_cons]; push_cast; omega
                      · show o = o0 + ((if isMk (tmk K + 2) then 1 else 0) + nMk (drm K))
                        rw [hmk2, if_pos rfl]; omega
                      · refine (q4.tr (fun j k a b c => ?_))
                        rw [q_up_at c, k5 j k b (by omega)]
                    · rw [if_neg h44] at hch
                      cases hch
                      have hsg : l_sign T N 44 p e = .inl (1, p) := by unfold l_sign; rw [if_neg h44]
                      refine V_aload_0 d_mo_goesOn_322 ?_
                      refine V_bipush 44 d_mo_goesOn_323 (by decide) ?_
                      refine V_cvV1 d_mo_goesOn_325 ml_mo_260 mv_mo_asksSign (by decide) (Nat.le_of_ble_eq_true rfl) is_mo (ok_asksSign t3 (by decide)) ?_
                      rintro F4 ⟨t4, k4⟩
                      have t5 : mpS F4 T N (l_sign T N 44 p e) := t4
                      rw [hsg] at t5
                      have b4 := t5.2.2.2.1
                      refine V_aload_0 d_mo_goesOn_328 ?_
                      refine V_getI d_mo_goesOn_329 fl_mo_185 is_mo ?_
                      rw [b4]
                      refine V_if_eq 337 d_mo_goesOn_332 (by decide) (by omega) (fun c332 => by omega) (fun c332 => ?_)
                      refine V_iconst 0 d_mo_goesOn_335 ?_
                      refine V_ireturn d_mo_goesOn_336 (hR _ _ (by decide) ?_)
                      refine ⟨Or.inr ⟨rfl, Or.inl ⟨(1, p), rfl, t5, ?_⟩⟩, q3.tr k4.q⟩
                      have := hM3.bd
                      rw [k4 _ _ (by decide)]; omega
                  refine V_aload_0 d_mo_goesOn_304 ?_
                  refine V_cvI0 d_mo_goesOn_305 ml_mo_359 mv_mo_mark (by decide) (Nat.le_of_ble_eq_true rfl) is_mo (okm3) ?_
                  rintro _ f2 ⟨rfl, e2⟩
                  rw [e2]; clear e2 f2
                  refine V_bipush 21 d_mo_goesOn_308 (by decide) ?_
                  refine V_icmp_eq 322 d_mo_goesOn_310 (by decide) (by omega) (by omega) (fun c310 => ?_) (fun c310 => ?_)
                  · skip
                    exact K322
                  · skip
                    refine V_aload_0 d_mo_goesOn_313 ?_
                    refine V_cvI0 d_mo_goesOn_314 ml_mo_359 mv_mo_mark (by decide) (Nat.le_of_ble_eq_true rfl) is_mo (okm3) ?_
                    rintro _ f2 ⟨rfl, e2⟩
                    rw [e2]; clear e2 f2
                    refine V_bipush 22 d_mo_goesOn_317 (by decide) ?_
                    refine V_icmp_ne 358 d_mo_goesOn_319 (by decide) (by omega) (by omega) (fun c319 => by omega) (fun c319 => ?_)
                    exact K322
                · rw [if_neg h21] at hch
                  by_cases hno : tmk K = -1
                  · rw [if_pos hno] at hch
                    have hz := nMk_no K hno (fun x hx => (hM.2.1.2.2 x (List.mem_append_left _ hx)).1)
                    cases hch
                    refine V_aload_0 d_mo_goesOn_304 ?_
                    refine V_cvI0 d_mo_goesOn_305 ml_mo_359 mv_mo_mark (by decide) (Nat.le_of_ble_eq_true rfl) is_mo (okm3) ?_
                    rintro _ f2 ⟨rfl, e2⟩
                    rw [e2]; clear e2 f2
                    refine V_bipush 21 d_mo_goesOn_308 (by decide) ?_
                    refine V_icmp_eq 322 d_mo_goesOn_310 (by decide) (by omega) (by omega) (fun c310 => by omega) (fun c310 => ?_)
                    refine V_aload_0 d_mo_goesOn_313 ?_
                    refine V_cvI0 d_mo_goesOn_314 ml_mo_359 mv_mo_mark (by decide) (Nat.le_of_ble_eq_true rfl) is_mo (okm3) ?_
                    rintro _ f2 ⟨rfl, e2⟩
                    rw [e2]; clear e2 f2
                    refine V_bipush 22 d_mo_goesOn_317 (by decide) ?_
                    refine V_icmp_ne 358 d_mo_goesOn_319 (by decide) (by omega) (by omega) (fun c319 => ?_) (fun c319 => by omega)
                    refine V_aload_0 d_mo_goesOn_358 ?_
                    refine V_cvI0 d_mo_goesOn_359 ml_mo_359 mv_mo_mark (by decide) (Nat.le_of_ble_eq_true rfl) is_mo (okm3) ?_
                    rintro _ f2 ⟨rfl, e2⟩
                    rw [e2]; clear e2 f2
                    refine V_iconst (-1) d_mo_goesOn_362 ?_
                    refine V_icmp_eq 382 d_mo_goesOn_363 (by decide) (by omega) (by omega) (fun c363 => ?_) (fun c363 => by omega)
                    refine V_iconst 0 d_mo_goesOn_382 ?_
                    refine V_ireturn d_mo_goesOn_383 (hR _ _ (by decide) ?_)
                    refine ⟨Or.inr ⟨rfl, Or.inr ⟨K, L, p, e, rfl, ?_⟩⟩, q3⟩
                    rw [hz, Int.add_zero] at ho
                    rw [← ho]; exact hM3
                  · rw [if_neg hno] at hch
                    cases hch
                    have b3 := t3.2.2.2.1
                    refine V_aload_0 d_mo_goesOn_304 ?_
                    refine V_cvI0 d_mo_goesOn_305 ml_mo_359 mv_mo_mark (by decide) (Nat.le_of_ble_eq_true rfl) is_mo (okm3) ?_
                    rintro _ f2 ⟨rfl, e2⟩
                    rw [e2]; clear e2 f2
                    refine V_bipush 21 d_mo_goesOn_308 (by decide) ?_
                    refine V_icmp_eq 322 d_mo_goesOn_310 (by decide) (by omega) (by omega) (fun c310 => by omega) (fun c310 => ?_)
                    refine V_aload_0 d_mo_goesOn_313 ?_
                    refine V_cvI0 d_mo_goesOn_314 ml_mo_359 mv_mo_mark (by decide) (Nat.le_of_ble_eq_true rfl) is_mo (okm3) ?_
                    rintro _ f2 ⟨rfl, e2⟩
                    rw [e2]; clear e2 f2
                    refine V_bipush 22 d_mo_goesOn_317 (by decide) ?_
                    refine V_icmp_ne 358 d_mo_goesOn_319 (by decide) (by omega) (by omega) (fun c319 => ?_) (fun c319 => by omega)
                    refine V_aload_0 d_mo_goesOn_358 ?_
                    refine V_cvI0 d_mo_goesOn_359 ml_mo_359 mv_mo_mark (by decide) (Nat.le_of_ble_eq_true rfl) is_mo (okm3) ?_
                    rintro _ f2 ⟨rfl, e2⟩
                    rw [e2]; clear e2 f2
                    refine V_iconst (-1) d_mo_goesOn_362 ?_
                    refine V_icmp_eq 382 d_mo_goesOn_363 (by decide) (by omega) (by omega) (fun c363 => by omega) (fun c363 => ?_)
                    refine V_aload_0 d_mo_goesOn_366 ?_
                    refine V_getI d_mo_goesOn_367 fl_mo_185 is_mo ?_
                    rw [b3]
                    refine V_if_ne 382 d_mo_goesOn_370 (by decide) (by omega) (fun c370 => by omega) (fun c370 => ?_)
                    refine V_aload_0 d_mo_goesOn_373 ?_
                    refine V_iconst 1 d_mo_goesOn_374 ?_
                    refine V_aload_0 d_mo_goesOn_375 ?_
                    refine V_getI d_mo_goesOn_376 fl_mo_191 is_mo ?_
                    rw [e3]
                    refine V_cvV2 d_mo_goesOn_379 ml_mo_215 mv_mo_fail (by decide) (Nat.le_of_ble_eq_true rfl) is_mo (ok_mfail t3 (by decide)) ?_
                    rintro F4 ⟨t4, k4⟩
                    refine V_iconst 0 d_mo_goesOn_382 ?_
                    refine V_ireturn d_mo_goesOn_383 (hR _ _ (by decide) ?_)
                    refine ⟨Or.inr ⟨rfl, Or.inl ⟨(1, p), rfl, t4, ?_⟩⟩, q3.tr k4.q⟩
                    have := hM3.bd
                    rw [k4 _ _ (by decide)]; omega
              refine V_aload_0 d_mo_goesOn_203 ?_
              refine V_bipush 43 d_mo_goesOn_204 (by decide) ?_
              refine V_cvI1 d_mo_goesOn_206 ml_mo_219 mv_mo_takesSign (by decide) (Nat.le_of_ble_eq_true rfl) is_mo (n42 F2 43 (by decide) (by omega) t2) ?_
              rintro x3 F3 ⟨rfl, t3, k3, e3⟩
              refine V_if_ne 221 d_mo_goesOn_209 (by decide) (by omega) (fun c209 => by omega) (fun c209 => ?_)
              refine V_aload_0 d_mo_goesOn_212 ?_
              refine V_bipush 45 d_mo_goesOn_213 (by decide) ?_
              refine V_cvI1 d_mo_goesOn_215 ml_mo_219 mv_mo_takesSign (by decide) (Nat.le_of_ble_eq_true rfl) is_mo (n42 F3 45 (by decide) (by omega) t3) ?_
              rintro x4 F4 ⟨rfl, t4, k4, e4⟩
              refine V_if_eq 304 d_mo_goesOn_218 (by decide) (by omega) (fun c218 => ?_) (fun c218 => by omega)
              exact K304 F4 t4 ((k2.tr k3).tr k4) e4
          have K118 : V D C m_mo_goesOn 118 [vr D 219, u] [] (Zg g h) F1 := by
            refine V_aload_0 d_mo_goesOn_118 ?_
            refine V_bipush 42 d_mo_goesOn_119 (by decide) ?_
            refine V_cvI1 d_mo_goesOn_121 ml_mo_219 mv_mo_takesSign (by decide) (Nat.le_of_ble_eq_true rfl) is_mo (n42 F1 42 (by decide) (by omega) hM1.1) ?_
            rintro x3 F3 ⟨rfl, t3, k3, e3⟩
            refine V_if_ne 136 d_mo_goesOn_124 (by decide) (by omega) (fun c124 => by omega) (fun c124 => ?_)
            refine V_aload_0 d_mo_goesOn_127 ?_
            refine V_bipush 47 d_mo_goesOn_128 (by decide) ?_
            refine V_cvI1 d_mo_goesOn_130 ml_mo_219 mv_mo_takesSign (by decide) (Nat.le_of_ble_eq_true rfl) is_mo (n42 F3 47 (by decide) (by omega) t3) ?_
            rintro x4 F4 ⟨rfl, t4, k4, e4⟩
            refine V_if_eq 203 d_mo_goesOn_133 (by decide) (by omega) (fun c133 => ?_) (fun c133 => by omega)
            exact K203 F4 t4 (k3.tr k4) e4
          refine V_aload_0 d_mo_goesOn_0 ?_
          refine V_getI d_mo_goesOn_1 fl_mo_185 is_mo ?_
          rw [hb5]
          refine V_if_ne 118 d_mo_goesOn_4 (by decide) (by omega) (fun c4 => by omega) (fun c4 => ?_)
          refine V_aload_0 d_mo_goesOn_7 ?_
          refine V_cvI0 d_mo_goesOn_8 ml_mo_197 mv_mo_look (by decide) (Nat.le_of_ble_eq_true rfl) is_mo (ok_look hM.1) ?_
          rintro _ f2 ⟨rfl, e2⟩
          rw [e2]; clear e2 f2
          rw [hF1]
          refine V_bipush 41 d_mo_goesOn_11 (by decide) ?_
          refine V_icmp_ne 118 d_mo_goesOn_13 (by decide) (by omega) (by omega) (fun c13 => ?_) (fun c13 => ?_)
          · skip
            exact K118
          · skip
            refine V_aload_0 d_mo_goesOn_16 ?_
            refine V_cvI0 d_mo_goesOn_17 ml_mo_359 mv_mo_mark (by decide) (Nat.le_of_ble_eq_true rfl) is_mo (okm) ?_
            rintro _ f2 ⟨rfl, e2⟩
            rw [e2]; clear e2 f2
            refine V_bipush 20 d_mo_goesOn_20 (by decide) ?_
            refine V_icmp_eq 43 d_mo_goesOn_22 (by decide) (by omega) (by omega) (fun c22 => by omega) (fun c22 => ?_)
            refine V_aload_0 d_mo_goesOn_25 ?_
            refine V_cvI0 d_mo_goesOn_26 ml_mo_359 mv_mo_mark (by decide) (Nat.le_of_ble_eq_true rfl) is_mo (okm) ?_
            rintro _ f2 ⟨rfl, e2⟩
            rw [e2]; clear e2 f2
            refine V_bipush 23 d_mo_goesOn_29 (by decide) ?_
            refine V_icmp_eq 43 d_mo_goesOn_31 (by decide) (by omega) (by omega) (fun c31 => by omega) (fun c31 => ?_)
            refine V_aload_0 d_mo_goesOn_34 ?_
            refine V_cvI0 d_mo_goesOn_35 ml_mo_359 mv_mo_mark (by decide) (Nat.le_of_ble_eq_true rfl) is_mo (okm) ?_
            rintro _ f2 ⟨rfl, e2⟩
            rw [e2]; clear e2 f2
            refine V_bipush 24 d_mo_goesOn_38 (by decide) ?_
            refine V_icmp_ne 118 d_mo_goesOn_40 (by decide) (by omega) (by omega) (fun c40 => ?_) (fun c40 => by omega)
            exact K118
  obtain ⟨m, K, L, o, p, e, h1, h2, h3, h4, h5⟩ := hSt
  exact loop m K L o p e f _ h2 h1 h3 h4 h5 (mQ.refl f)
/-- a whole sum -/
def sumP (f' : q_F) (T : Int → Int) (N : Int) (K0 : List Int) (o0 : Int) (X : q_R (List Int × Int × Int)) : Prop := match X with
  | .inl e0 => mBd f' T N e0
  | .inr s => mR f' T N K0 s.1 o0 s.2.1 s.2.2
theorem ok_sumsTold {n : Nat} {K0 L : List Int} {o : Int} {r : q_R (List Int × Int × Int)} (hM : mR f T N K0 L o p e) (ho : 0 ≤ o ∧ o ≤ 6) (ht0 : topN isAr K0) (hw : mW f) (hr : rd T N n 3 o p e = some r) : OkV D m_mo_sumsTold [vr D 219] (Zg g h) f (fun f' => sumP f' T N K0 o (rpre L r) ∧ mQ f f') := by
  obtain ⟨m0, hm0⟩ := m_sum (L := L) ho hr
  generalize hX : rpre L r = X at *
  have hrg := hM.rg
  have hw50 := hM.2.1.1
  refine OkV_of (L0 := [vr D 219, vu, vu]) mi_mo_sumsTold rfl rfl (Nat.le_of_ble_eq_true rfl) (fun C hR => ?_)
  have qb : ∀ F : q_F, mQ (q_up f 219 55 K0.length) F → mQ f (q_up F 219 55 (f 219 55)) := fun F hq j k a b c => by
    by_cases e : j = 219 ∧ k = 55
    · rw [e.1, e.2, q_up_eq]
    · rw [q_up_ne (by omega), hq j k a b c, q_up_ne (by omega)]
  have KB : ∀ (F : q_F) (e0 : Int × Int) (v : Int), (v = 0 ∨ v = 1) → X = .inl e0 → mBd F T N e0 → mQ (q_up f 219 55 K0.length) F → V D C m_mo_sumsTold 15 [vr D 219, vi (f 219 55), vi v] [] (Zg g h) F := by
    intro F e0 v hv hX hB hq
    have hb := hB.1.2.2.2
    have fin : V D C m_mo_sumsTold 53 [vr D 219, vi (f 219 55), vi v] [] (Zg g h) F := by
      refine V_aload_0 d_mo_sumsTold_53 ?_
      refine V_getI d_mo_sumsTold_54 fl_mo_185 is_mo ?_
      rw [hb.1]
      refine V_if_ne 78 d_mo_sumsTold_57 (by decide) (by omega) (fun c57 => ?_) (fun c57 => by omega)
      refine V_aload_0 d_mo_sumsTold_78 ?_
      refine V_iload_1 d_mo_sumsTold_79 ?_
      refine V_putI d_mo_sumsTold_80 fl_mo_283 is_mo ?_
      refine V_return d_mo_sumsTold_83 (hR _ ?_)
      rw [hX]
      exact ⟨⟨hB.1.fr (fun j k hj => q_up_ne (by omega)), by rw [q_up_ne (Or.inr (by decide))]; exact hB.2⟩, qb F hq⟩
    rcases hv with rfl | rfl
    · skip
      refine V_iload_2 d_mo_sumsTold_15 ?_
      refine V_if_eq 53 d_mo_sumsTold_16 (by decide) (by omega) (fun c16 => ?_) (fun c16 => by omega)
      exact fin
    · skip
      refine V_iload_2 d_mo_sumsTold_15 ?_
      refine V_if_eq 53 d_mo_sumsTold_16 (by decide) (by omega) (fun c16 => by omega) (fun c16 => ?_)
      refine V_aload_0 d_mo_sumsTold_19 ?_
      refine V_getI d_mo_sumsTold_20 fl_mo_185 is_mo ?_
      rw [hb.1]
      refine V_if_ne 53 d_mo_sumsTold_23 (by decide) (by omega) (fun c23 => ?_) (fun c23 => by omega)
      exact fin
  have KE : ∀ (K L' : List Int) (F : q_F) (q d : Int), X = .inr (L' ++ K, q, d) → mR F T N (K ++ K0) L' o q d → mQ (q_up f 219 55 K0.length) F → V D C m_mo_sumsTold 53 [vr D 219, vi (f 219 55), vi 0] [] (Zg g h) F := by
    intro K
    induction K with
    | nil =>
      intro L' F q d hX hM2 hq
      have hb := hM2.1.2.2.2.1
      have h50 := hM2.2.1.1
      have h55 : F 219 55 = K0.length := by rw [hq _ _ (by decide) (by decide) (by decide), q_up_eq]
      have hrg2 := hM2.rg
      rw [List.nil_append] at h50
      refine V_aload_0 d_mo_sumsTold_53 ?_
      refine V_getI d_mo_sumsTold_54 fl_mo_185 is_mo ?_
      rw [hb]
      refine V_if_ne 78 d_mo_sumsTold_57 (by decide) (by omega) (fun c57 => by omega) (fun c57 => ?_)
      refine V_aload_0 d_mo_sumsTold_60 ?_
      refine V_getI d_mo_sumsTold_61 fl_mo_277 is_mo ?_
      rw [h50]
      refine V_aload_0 d_mo_sumsTold_64 ?_
      refine V_getI d_mo_sumsTold_65 fl_mo_283 is_mo ?_
      rw [h55]
      refine V_icmp_le 78 d_mo_sumsTold_68 (by decide) (by omega) (by omega) (fun c68 => ?_) (fun c68 => by omega)
      refine V_aload_0 d_mo_sumsTold_78 ?_
      refine V_iload_1 d_mo_sumsTold_79 ?_
      refine V_putI d_mo_sumsTold_80 fl_mo_283 is_mo ?_
      refine V_return d_mo_sumsTold_83 (hR _ ?_)
      rw [hX, List.append_nil]
      refine ⟨⟨hM2.1.fr (fun j k hj => q_up_ne (by omega)), hM2.2.1.fr (fun j k hj => q_up_ne (by omega)), hM2.2.2.1.fr (fun j k hj => q_up_ne (by omega)), by rw [q_up_ne (Or.inr (by decide))]; exact hM2.2.2.2.1, hM2.2.2.2.2⟩, qb F hq⟩
    | cons x K ih =>
      intro L' F q d hX hM2 hq
      have hb := hM2.1.2.2.2.1
      have w2 : wS F (x :: (K ++ K0)) := hM2.2.1
      obtain ⟨g1, g2, g3⟩ := w2.top
      have h55 : F 219 55 = K0.length := by rw [hq _ _ (by decide) (by decide) (by decide), q_up_eq]
      have hrg2 := hM2.rg
      have hlen : ((x :: K ++ K0).length : Int) = (K ++ K0).length + 1 := by rw [List.cons_append, List.length_cons]; push_cast; rfl
      have hlen2 : ((K ++ K0).length : Int) = K.length + K0.length := by rw [List.length_append]; push_cast; rfl
      refine V_aload_0 d_mo_sumsTold_53 ?_
      refine V_getI d_mo_sumsTold_54 fl_mo_185 is_mo ?_
      rw [hb]
      refine V_if_ne 78 d_mo_sumsTold_57 (by decide) (by omega) (fun c57 => by omega) (fun c57 => ?_)
      refine V_aload_0 d_mo_sumsTold_60 ?_
      refine V_getI d_mo_sumsTold_61 fl_mo_277 is_mo ?_
      rw [g1]
      refine V_aload_0 d_mo_sumsTold_64 ?_
      refine V_getI d_mo_sumsTold_65 fl_mo_283 is_mo ?_
      rw [h55]
      refine V_icmp_le 78 d_mo_sumsTold_68 (by decide) (by omega) (by omega) (fun c68 => by omega) (fun c68 => ?_)
      refine V_aload_0 d_mo_sumsTold_71 ?_
      refine V_cvV0 d_mo_sumsTold_72 ml_mo_353 mv_mo_drops (by decide) (Nat.le_of_ble_eq_true rfl) is_mo (ok_drops w2 hM2.2.2.1 (by omega) (by omega)) ?_
      rintro F3 ⟨w3, c3, k3⟩
      refine V_goto 53 d_mo_sumsTold_75 (by decide) ?_
      refine ih (L' ++ [x]) F3 q d (by rw [hX]; simp) ⟨hM2.1.fr (fun j k hj => k3 j k (by omega) (by omega)), w3, c3, by rw [k3 _ _ (by decide) (by decide)]; exact hM2.2.2.2.1, ?_⟩ (hq.tr (fun j k a b c => k3 j k b (by omega)))
      rw [List.length_append, List.length_cons, List.length_nil]; push_cast; omega
  have loop : ∀ (n : Nat) (F : q_F), mSt F T N true K0 o n X → mQ (q_up f 219 55 K0.length) F → V D C m_mo_sumsTold 15 [vr D 219, vi (f 219 55), vi 1] [] (Zg g h) F := by
    intro n
    induction n with
    | zero =>
      intro F hSt
      obtain ⟨m, K, L, o, p, e, h1, h2, -⟩ := hSt
      have : m = 0 := by omega
      subst this
      cases h2
    | succ n ih =>
      intro F hSt hq
      have hb5 : F 219 5 = 0 := by
        obtain ⟨m, K, L, o, p, e, h1, h2, h3, -⟩ := hSt
        exact h3.1.2.2.2.1
      have hwF : mW F := (show mW (q_up f 219 55 K0.length) from fun i hi k hk => by rw [q_up_at (by omega)]; exact hw i hi k hk).q hq
      have K30b : ∀ (F2 : q_F) (e0 : Int × Int), X = .inl e0 → mBd F2 T N e0 → mQ (q_up f 219 55 K0.length) F2 → V D C m_mo_sumsTold 30 [vr D 219, vi (f 219 55), vi 1] [] (Zg g h) F2 := by
        intro F2 e0 hXe hB q2
        have hb := hB.1.2.2.2
        refine V_aload_0 d_mo_sumsTold_30 ?_
        refine V_getI d_mo_sumsTold_31 fl_mo_185 is_mo ?_
        rw [hb.1]
        refine V_if_ne 48 d_mo_sumsTold_34 (by decide) (by omega) (fun c34 => ?_) (fun c34 => by omega)
        refine V_iconst 0 d_mo_sumsTold_48 ?_
        refine V_istore_2 d_mo_sumsTold_49 rfl ?_
        refine V_goto 15 d_mo_sumsTold_50 (by decide) ?_
        exact KB F2 e0 0 (Or.inl rfl) hXe hB q2
      have K41t : ∀ (F3 : q_F), mSt F3 T N true K0 o n X → mQ (q_up f 219 55 K0.length) F3 → V D C m_mo_sumsTold 41 [vr D 219, vi (f 219 55), vi 1] [vi 1] (Zg g h) F3 := by
        intro F3 hSt3 q3
        refine V_if_eq 48 d_mo_sumsTold_41 (by decide) (by omega) (fun c41 => by omega) (fun c41 => ?_)
        refine V_iconst 1 d_mo_sumsTold_44 ?_
        refine V_goto 49 d_mo_sumsTold_45 (by decide) ?_
        refine V_istore_2 d_mo_sumsTold_49 rfl ?_
        refine V_goto 15 d_mo_sumsTold_50 (by decide) ?_
        exact ih F3 hSt3 q3
      have K41b : ∀ (F3 : q_F) (e0 : Int × Int), X = .inl e0 → mBd F3 T N e0 → mQ (q_up f 219 55 K0.length) F3 → V D C m_mo_sumsTold 41 [vr D 219, vi (f 219 55), vi 1] [vi 0] (Zg g h) F3 := by
        intro F3 e0 hXe hB q3
        refine V_if_eq 48 d_mo_sumsTold_41 (by decide) (by omega) (fun c41 => ?_) (fun c41 => by omega)
        refine V_iconst 0 d_mo_sumsTold_48 ?_
        refine V_istore_2 d_mo_sumsTold_49 rfl ?_
        refine V_goto 15 d_mo_sumsTold_50 (by decide) ?_
        exact KB F3 e0 0 (Or.inl rfl) hXe hB q3
      have K41e : ∀ (F3 : q_F) (K L' : List Int) (q d : Int), X = .inr (L' ++ K, q, d) → mR F3 T N (K ++ K0) L' o q d → mQ (q_up f 219 55 K0.length) F3 → V D C m_mo_sumsTold 41 [vr D 219, vi (f 219 55), vi 1] [vi 0] (Zg g h) F3 := by
        intro F3 K L' q d hXe hM3 q3
        have hE := KE K L' F3 q d hXe hM3 q3
        refine V_if_eq 48 d_mo_sumsTold_41 (by decide) (by omega) (fun c41 => ?_) (fun c41 => by omega)
        refine V_iconst 0 d_mo_sumsTold_48 ?_
        refine V_istore_2 d_mo_sumsTold_49 rfl ?_
        refine V_goto 15 d_mo_sumsTold_50 (by decide) ?_
        refine V_iload_2 d_mo_sumsTold_15 ?_
        refine V_if_eq 53 d_mo_sumsTold_16 (by decide) (by omega) (fun c16 => ?_) (fun c16 => by omega)
        exact hE
      have K30s : ∀ (F2 : q_F), mSt F2 T N false K0 o n X → mQ (q_up f 219 55 K0.length) F2 → V D C m_mo_sumsTold 30 [vr D 219, vi (f 219 55), vi 1] [] (Zg g h) F2 := by
        intro F2 hSt2 q2
        have hb2 : F2 219 5 = 0 := by
          obtain ⟨m, K, L, o, p, e, h1, h2, h3, -⟩ := hSt2
          exact h3.1.2.2.2.1
        have h55 : F2 219 55 = K0.length := by rw [q2 _ _ (by decide) (by decide) (by decide), q_up_eq]
        refine V_aload_0 d_mo_sumsTold_30 ?_
        refine V_getI d_mo_sumsTold_31 fl_mo_185 is_mo ?_
        rw [hb2]
        refine V_if_ne 48 d_mo_sumsTold_34 (by decide) (by omega) (fun c34 => by omega) (fun c34 => ?_)
        refine V_aload_0 d_mo_sumsTold_37 ?_
        refine V_cvI0 d_mo_sumsTold_38 ml_mo_371 mv_mo_goesOn (by decide) (Nat.le_of_ble_eq_true rfl) is_mo (ok_goesOn hSt2 h55 ht0 ho.1) ?_
        rintro x F3 ⟨hx, q3⟩
        rcases hx with ⟨rfl, hSt3⟩ | ⟨rfl, ⟨e0, hXe, hB⟩ | ⟨K, L', q, d, hXe, hM3⟩⟩
        · exact K41t F3 hSt3 (q2.tr q3)
        · exact K41b F3 e0 hXe hB (q2.tr q3)
        · exact K41e F3 K L' q d hXe hM3 (q2.tr q3)
      refine V_iload_2 d_mo_sumsTold_15 ?_
      refine V_if_eq 53 d_mo_sumsTold_16 (by decide) (by omega) (fun c16 => by omega) (fun c16 => ?_)
      refine V_aload_0 d_mo_sumsTold_19 ?_
      refine V_getI d_mo_sumsTold_20 fl_mo_185 is_mo ?_
      rw [hb5]
      refine V_if_ne 53 d_mo_sumsTold_23 (by decide) (by omega) (fun c23 => by omega) (fun c23 => ?_)
      refine V_aload_0 d_mo_sumsTold_26 ?_
      refine V_cvV0 d_mo_sumsTold_27 ml_mo_368 mv_mo_onePart (by decide) (Nat.le_of_ble_eq_true rfl) is_mo (ok_onePart hSt hwF ho.1) ?_
      rintro F2 ⟨h2, q2⟩
      rcases h2 with ⟨e0, hXe, hB⟩ | hSt2
      · exact K30b F2 e0 hXe hB (hq.tr q2)
      · exact K30s F2 hSt2 (hq.tr q2)
  refine V_aload_0 d_mo_sumsTold_0 ?_
  refine V_getI d_mo_sumsTold_1 fl_mo_283 is_mo ?_
  refine V_istore_1 d_mo_sumsTold_4 rfl ?_
  refine V_aload_0 d_mo_sumsTold_5 ?_
  refine V_aload_0 d_mo_sumsTold_6 ?_
  refine V_getI d_mo_sumsTold_7 fl_mo_277 is_mo ?_
  rw [hw50]
  refine V_putI d_mo_sumsTold_10 fl_mo_283 is_mo ?_
  refine V_iconst 1 d_mo_sumsTold_13 ?_
  refine V_istore_2 d_mo_sumsTold_14 rfl ?_
  refine loop m0 _ ⟨m0, [], L, o, p, e, Nat.le_refl _, hm0, ⟨hM.1.fr (fun j k hj => q_up_ne (by omega)), hM.2.1.fr (fun j k hj => q_up_ne (by omega)), hM.2.2.1.fr (fun j k hj => q_up_ne (by omega)), by rw [q_up_ne (Or.inr (by decide))]; exact hM.2.2.2.1, hM.2.2.2.2⟩, by show o = o + 0; omega, ho.2⟩ (mQ.refl _)
end RS4
