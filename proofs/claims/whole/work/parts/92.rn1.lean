/-! the reference reads statements: names -/
/-- counts and names in the reference's reading rows are those of S -/
def mN (f S : q_F) : Prop := (∀ k, 0 ≤ k → k < 4 → f 246 k = S 1 k) ∧ ∀ k w, 0 ≤ k → k < 4 → 0 ≤ w → w < S 1 k → ∃ l, isNm l ∧ S (3 + k) w = pk32 l ∧ f 247 (8 * k + w) = pk27 l
/-- a new name: one that nobody bears -/
def nwN (S : q_F) (T : Int → Int) (N p e : Int) : q_R (List Int × Int × Int) := rb (l_name T N p e) (fun s => if gvn S (pk32 s.1) then .inl (3, p) else .inr s)
section RN1
variable {D : q_D} {f f' S : q_F} {A : q_As} {g h : Int} {T : Int → Int} {N p e : Int}
theorem isNm.pos {l : List Int} (h : isNm l) : 0 < pk32 l ∧ 0 < pk27 l := by
  obtain ⟨h1, h2, h3⟩ := h
  have hn : ¬ l = [] := fun e => by rw [e] at h1; exact absurd h1 (by decide)
  refine ⟨?_, ?_⟩
  · have h4 : 0 ≤ pk32 l := by
      have : ∀ l : List Int, (∀ c ∈ l, isL c = true) → 0 ≤ pk32 l := by
        intro l
        induction l with
        | nil => intro _; decide
        | cons c l ih =>
          intro hl
          have hc := hl c (List.mem_cons_self ..)
          unfold isL at hc; rw [decide_eq_true_iff] at hc
          have := ih (fun x hx => hl x (List.mem_cons_of_mem _ hx))
          rw [pk32]; omega
      exact this l h3
    have h5 : ¬ pk32 l = 0 := fun e => hn (pk32_inj l [] h3 (fun c hc => by cases hc) (by rw [e]; rfl))
    omega
  · have h4 := pk27_rg h3 h2
    have h5 : ¬ pk27 l = 0 := fun e => hn ((pk27_inj h3 (fun c hc => by cases hc)).mp (by rw [e]; rfl))
    omega
theorem mN.fr (hM : mN f S) (hf : ∀ j k, (j = 246 ∧ 0 ≤ k ∧ k < 4) ∨ (j = 247 ∧ k < 32) → f' j k = f j k) (hW : pW S) : mN f' S := by
  refine ⟨fun k a b => by rw [hf _ _ (by omega)]; exact hM.1 k a b, fun k w a b c d => ?_⟩
  have := hW.cn (k := k) ⟨a, b⟩
  obtain ⟨l, h1, h2, h3⟩ := hM.2 k w a b c d
  exact ⟨l, h1, h2, by rw [hf _ _ (by omega)]; exact h3⟩
theorem ok_nameOf (hM : mN f S) (hW : pW S) {k v v' : Int} (hk : 0 ≤ k ∧ k < 4) (hv : 0 ≤ v ∧ v < 387420489) (hiff : ∀ w, 0 ≤ w → w < S 1 k → (f 247 (8 * k + w) = v ↔ S (3 + k) w = v')) : OkI D m_mo_nameOf [vr D 219, vi k, vl v] (Zg g h) f (fun x f' => x = nmS S k v' ∧ f' = f) := by
  have hc := hM.1 k hk.1 hk.2
  have hr := hW.cn hk
  refine OkI_of (L0 := [vr D 219, vi k, vl v, vu, vu]) mi_mo_nameOf rfl rfl (Nat.le_of_ble_eq_true rfl) (fun C hR => ?_)
  have loop : ∀ (m : Nat) (w : Int), w + m = S 1 k → 0 ≤ w → nmF S (3 + k) v' m w = nmS S k v' → V D C m_mo_nameOf 3 [vr D 219, vi k, vl v, vu, vi w] [] (Zg g h) f := by
    intro m
    induction m with
    | zero =>
      intro w hm h0 hs
      refine V_iload_4 d_mo_nameOf_3 ?_
      refine V_aload_0 d_mo_nameOf_5 ?_
      refine V_getR d_mo_nameOf_6 fl_mo_93 is_mo r_mo_many ?_
      refine V_iload_1 d_mo_nameOf_9 ?_
      refine V_iald d_mo_nameOf_10 is_mo_many (by omega) (by omega) ?_
      rw [hc]
      refine V_icmp_ge 40 d_mo_nameOf_11 (by decide) (by omega) (by omega) (fun c11 => ?_) (fun c11 => by omega)
      refine V_iconst (-1) d_mo_nameOf_40 ?_
      refine V_ireturn d_mo_nameOf_41 (hR _ _ ?_)
      exact ⟨hs, rfl⟩
    | succ m ih =>
      intro w hm h0 hs
      obtain ⟨l, l1, l2, l3⟩ := hM.2 k w hk.1 hk.2 h0 (by omega)
      have hb := pk27_rg l1.2.2 l1.2.1
      have hi := hiff w h0 (by omega)
      rw [l3] at hi
      unfold nmF at hs
      refine V_iload_4 d_mo_nameOf_3 ?_
      refine V_aload_0 d_mo_nameOf_5 ?_
      refine V_getR d_mo_nameOf_6 fl_mo_93 is_mo r_mo_many ?_
      refine V_iload_1 d_mo_nameOf_9 ?_
      refine V_iald d_mo_nameOf_10 is_mo_many (by omega) (by omega) ?_
      rw [hc]
      refine V_icmp_ge 40 d_mo_nameOf_11 (by decide) (by omega) (by omega) (fun c11 => by omega) (fun c11 => ?_)
      refine V_aload_0 d_mo_nameOf_14 ?_
      refine V_getR d_mo_nameOf_15 fl_mo_96 is_mo r_mo_names ?_
      refine V_bipush 8 d_mo_nameOf_18 (by decide) ?_
      refine V_iload_1 d_mo_nameOf_20 ?_
      refine V_imul d_mo_nameOf_21 ?_
      refine V_iload_4 d_mo_nameOf_22 ?_
      refine V_iadd d_mo_nameOf_24 ?_
      refine V_lald d_mo_nameOf_25 is_mo_names (by omega) (by omega) ?_
      rw [l3]
      refine V_lload_2 d_mo_nameOf_26 ?_
      refine V_lcmp_ne 34 d_mo_nameOf_27 d_mo_nameOf_28 (by decide) (by omega) (by omega) (fun c27 => ?_) (fun c27 => ?_)
      · skip
        rw [if_neg (fun e => c27 (hi.mpr e))] at hs
        refine V_iinc_4 d_mo_nameOf_34 rfl ?_
        refine V_goto 3 d_mo_nameOf_37 (by decide) ?_
        exact ih _ (by omega) (by omega) hs
      · skip
        rw [if_pos (hi.mp c27)] at hs
        refine V_iload_4 d_mo_nameOf_31 ?_
        refine V_ireturn d_mo_nameOf_33 (hR _ _ ?_)
        exact ⟨hs, rfl⟩
  refine V_iconst 0 d_mo_nameOf_0 ?_
  refine V_istore_4 d_mo_nameOf_1 rfl ?_
  exact loop (S 1 k).toNat _ (by omega) (by decide) rfl
theorem mN.iff (hM : mN f S) {k : Int} (hk : 0 ≤ k ∧ k < 4) {l : List Int} (hl : isNm l) : ∀ w, 0 ≤ w → w < S 1 k → (f 247 (8 * k + w) = pk27 l ↔ S (3 + k) w = pk32 l) := fun w w0 w1 => by
  obtain ⟨u, u1, u2, u3⟩ := hM.2 k w hk.1 hk.2 w0 w1
  rw [u2, u3, pk27_inj u1.2.2 hl.2.2]
  constructor
  · intro e; rw [e]
  · intro e; exact pk32_inj u l u1.2.2 hl.2.2 e
theorem mN.iff0 (hM : mN f S) {k : Int} (hk : 0 ≤ k ∧ k < 4) : ∀ w, 0 ≤ w → w < S 1 k → (f 247 (8 * k + w) = 0 ↔ S (3 + k) w = 0) := fun w w0 w1 => by
  obtain ⟨u, u1, u2, u3⟩ := hM.2 k w hk.1 hk.2 w0 w1
  have := u1.pos
  rw [u2, u3]; constructor <;> intro e <;> omega
theorem nmS_0 (hM : mN f S) {k : Int} (hk : 0 ≤ k ∧ k < 4) : nmS S k 0 = -1 := by
  have gen : ∀ (m : Nat) (w : Int), 0 ≤ w → w + m ≤ S 1 k → nmF S (3 + k) 0 m w = -1 := by
    intro m
    induction m with
    | zero => intro w _ _; rfl
    | succ m ih =>
      intro w h0 h1
      unfold nmF
      obtain ⟨u, u1, u2, u3⟩ := hM.2 k w hk.1 hk.2 h0 (by omega)
      have := u1.pos
      rw [if_neg (by omega)]; exact ih _ (by omega) (by omega)
  unfold nmS
  by_cases e : S 1 k < 0
  · rw [show (S 1 k).toNat = 0 by omega]; rfl
  · exact gen _ 0 (by decide) (by omega)
theorem mK.n (h : mK f f') (hM : mN f S) (hW : pW S) : mN f' S := hM.fr (fun j k hj => h j k (by omega)) hW
theorem ok_nameOfR (hM : mN f S) (hW : pW S) {k v : Int} (hk : 0 ≤ k ∧ k < 4) (hv : 0 ≤ v ∧ v < 387420489) : OkI D m_mo_nameOf [vr D 219, vi k, vl v] (Zg g h) f (fun x f' => (-1 ≤ x ∧ x ≤ 7) ∧ f' = f) := by
  have hc := hM.1 k hk.1 hk.2
  have hr := hW.cn hk
  refine OkI_of (L0 := [vr D 219, vi k, vl v, vu, vu]) mi_mo_nameOf rfl rfl (Nat.le_of_ble_eq_true rfl) (fun C hR => ?_)
  have loop : ∀ (m : Nat) (w : Int), w + m = S 1 k → 0 ≤ w → V D C m_mo_nameOf 3 [vr D 219, vi k, vl v, vu, vi w] [] (Zg g h) f := by
    intro m
    induction m with
    | zero =>
      intro w hm h0
      refine V_iload_4 d_mo_nameOf_3 ?_
      refine V_aload_0 d_mo_nameOf_5 ?_
      refine V_getR d_mo_nameOf_6 fl_mo_93 is_mo r_mo_many ?_
      refine V_iload_1 d_mo_nameOf_9 ?_
      refine V_iald d_mo_nameOf_10 is_mo_many (by omega) (by omega) ?_
      rw [hc]
      refine V_icmp_ge 40 d_mo_nameOf_11 (by decide) (by omega) (by omega) (fun c11 => ?_) (fun c11 => by omega)
      refine V_iconst (-1) d_mo_nameOf_40 ?_
      refine V_ireturn d_mo_nameOf_41 (hR _ _ ?_)
      exact ⟨by decide, rfl⟩
    | succ m ih =>
      intro w hm h0
      obtain ⟨l, l1, l2, l3⟩ := hM.2 k w hk.1 hk.2 h0 (by omega)
      have hb := pk27_rg l1.2.2 l1.2.1
      refine V_iload_4 d_mo_nameOf_3 ?_
      refine V_aload_0 d_mo_nameOf_5 ?_
      refine V_getR d_mo_nameOf_6 fl_mo_93 is_mo r_mo_many ?_
      refine V_iload_1 d_mo_nameOf_9 ?_
      refine V_iald d_mo_nameOf_10 is_mo_many (by omega) (by omega) ?_
      rw [hc]
      refine V_icmp_ge 40 d_mo_nameOf_11 (by decide) (by omega) (by omega) (fun c11 => by omega) (fun c11 => ?_)
      refine V_aload_0 d_mo_nameOf_14 ?_
      refine V_getR d_mo_nameOf_15 fl_mo_96 is_mo r_mo_names ?_
      refine V_bipush 8 d_mo_nameOf_18 (by decide) ?_
      refine V_iload_1 d_mo_nameOf_20 ?_
      refine V_imul d_mo_nameOf_21 ?_
      refine V_iload_4 d_mo_nameOf_22 ?_
      refine V_iadd d_mo_nameOf_24 ?_
      refine V_lald d_mo_nameOf_25 is_mo_names (by omega) (by omega) ?_
      rw [l3]
      refine V_lload_2 d_mo_nameOf_26 ?_
      refine V_lcmp_ne 34 d_mo_nameOf_27 d_mo_nameOf_28 (by decide) (by omega) (by omega) (fun c27 => ?_) (fun c27 => ?_)
      · skip
        refine V_iinc_4 d_mo_nameOf_34 rfl ?_
        refine V_goto 3 d_mo_nameOf_37 (by decide) ?_
        exact ih _ (by omega) (by omega)
      · skip
        refine V_iload_4 d_mo_nameOf_31 ?_
        refine V_ireturn d_mo_nameOf_33 (hR _ _ ?_)
        exact ⟨by omega, rfl⟩
  refine V_iconst 0 d_mo_nameOf_0 ?_
  refine V_istore_4 d_mo_nameOf_1 rfl ?_
  exact loop (S 1 k).toNat _ (by omega) (by decide)
theorem ok_oneOf {s : q_R (Int × Int)} (hT : mpS f T N s) (hw : mW f) (hM : mN f S) (hW : pW S) {k : Int} (hk : 0 ≤ k ∧ k < 4) : OkI D m_mo_oneOf [vr D 219, vi k] (Zg g h) f (fun x f' => mpS f' T N (pst (rb s (fun u => sOld S T N k u.1 u.2))) ∧ mK f f' ∧ (0 ≤ x ∧ x ≤ 7) ∧ ∀ v q d, rb s (fun u => sOld S T N k u.1 u.2) = .inr (v, q, d) → x = v ∧ ∀ p e, s = .inr (p, e) → f' 219 34 = p) := by
  refine OkI_of (L0 := [vr D 219, vi k, vu, vu, vu]) mi_mo_oneOf rfl rfl (Nat.le_of_ble_eq_true rfl) (fun C hR => ?_)
  have bad : ∀ (F : q_F) (x : Int) (e0 : Int × Int), mpS F T N (.inl e0) → mK f F → (0 ≤ x ∧ x < 387420489) → rb s (fun u => sOld S T N k u.1 u.2) = .inl e0 → V D C m_mo_oneOf 5 [vr D 219, vi k, vl x, vu, vu] [] (Zg g h) F := by
    intro F x e0 t1 k1 x1 hr
    have b1 := t1.2.2.2
    have hM1 := k1.n hM hW
    rw [hr] at hR
    refine V_aload_0 d_mo_oneOf_5 ?_
    refine V_iload_1 d_mo_oneOf_6 ?_
    refine V_lload_2 d_mo_oneOf_7 ?_
    refine V_cvI2 d_mo_oneOf_8 ml_mo_244 mv_mo_nameOf (by decide) (Nat.le_of_ble_eq_true rfl) is_mo (ok_nameOfR hM1 hW hk x1) ?_
    rintro y f2 ⟨y1, e2⟩
    rw [e2]; clear e2 f2
    refine V_istore_4 d_mo_oneOf_11 rfl ?_
    refine V_aload_0 d_mo_oneOf_13 ?_
    refine V_getI d_mo_oneOf_14 fl_mo_185 is_mo ?_
    rw [b1.1]
    refine V_if_ne 35 d_mo_oneOf_17 (by decide) (by omega) (fun c17 => ?_) (fun c17 => by omega)
    refine V_iload_4 d_mo_oneOf_35 ?_
    refine V_iconst (-1) d_mo_oneOf_37 ?_
    refine V_icmp_ne 45 d_mo_oneOf_38 (by decide) (by omega) (by omega) (fun c38 => ?_) (fun c38 => ?_)
    · skip
      refine V_iload_4 d_mo_oneOf_45 ?_
      refine V_ireturn d_mo_oneOf_47 (hR _ _ ?_)
      exact ⟨t1, k1, by omega, fun v q d h => by cases h⟩
    · skip
      refine V_iconst 0 d_mo_oneOf_41 ?_
      refine V_goto 47 d_mo_oneOf_42 (by decide) ?_
      refine V_ireturn d_mo_oneOf_47 (hR _ _ ?_)
      exact ⟨t1, k1, by decide, fun v q d h => by cases h⟩
  have good : ∀ (F : q_F) (p e q d : Int) (l : List Int), s = .inr (p, e) → l_name T N p e = .inr (l, q, d) → mpS F T N (.inr (q, d)) → mK f F → F 219 34 = p → V D C m_mo_oneOf 5 [vr D 219, vi k, vl (pk27 l), vu, vu] [] (Zg g h) F := by
    intro F p e q d l hs0 hl t1 k1 x3
    rw [hs0] at hT
    have ln := (l_name_rg hT.pr.2.1 hl).1
    have hM1 := k1.n hM hW
    have b1 := t1.2.2.2.1
    have rg := nmS_rg hW hk (pk32 l)
    have hcn := hW.cn hk
    have x1 := pk27_rg ln.2.2 ln.2.1
    have hs : rb s (fun u => sOld S T N k u.1 u.2) = if nmS S k (pk32 l) = -1 then .inl (3, p) else .inr (nmS S k (pk32 l), q, d) := by rw [hs0]; show sOld S T N k p e = _; unfold sOld; rw [hl]; rfl
    rw [hs] at hR
    clear bad hs
    by_cases n1 : nmS S k (pk32 l) = -1
    · rw [if_pos n1] at hR
      refine V_aload_0 d_mo_oneOf_5 ?_
      refine V_iload_1 d_mo_oneOf_6 ?_
      refine V_lload_2 d_mo_oneOf_7 ?_
      refine V_cvI2 d_mo_oneOf_8 ml_mo_244 mv_mo_nameOf (by decide) (Nat.le_of_ble_eq_true rfl) is_mo (ok_nameOf hM1 hW hk x1 (v' := pk32 l) (hM1.iff hk ln)) ?_
      rintro _ f2 ⟨rfl, e2⟩
      rw [e2]; clear e2 f2
      refine V_istore_4 d_mo_oneOf_11 rfl ?_
      refine V_aload_0 d_mo_oneOf_13 ?_
      refine V_getI d_mo_oneOf_14 fl_mo_185 is_mo ?_
      rw [b1]
      refine V_if_ne 35 d_mo_oneOf_17 (by decide) (by omega) (fun c17 => by omega) (fun c17 => ?_)
      refine V_iload_4 d_mo_oneOf_20 ?_
      refine V_iconst (-1) d_mo_oneOf_22 ?_
      refine V_icmp_ne 35 d_mo_oneOf_23 (by decide) (by omega) (by omega) (fun c23 => by omega) (fun c23 => ?_)
      refine V_aload_0 d_mo_oneOf_26 ?_
      refine V_iconst 3 d_mo_oneOf_27 ?_
      refine V_aload_0 d_mo_oneOf_28 ?_
      refine V_getI d_mo_oneOf_29 fl_mo_233 is_mo ?_
      rw [x3]
      refine V_cvV2 d_mo_oneOf_32 ml_mo_215 mv_mo_fail (by decide) (Nat.le_of_ble_eq_true rfl) is_mo (ok_mfail t1 (by decide)) ?_
      rintro F2 ⟨t2, k2⟩
      refine V_iload_4 d_mo_oneOf_35 ?_
      refine V_iconst (-1) d_mo_oneOf_37 ?_
      refine V_icmp_ne 45 d_mo_oneOf_38 (by decide) (by omega) (by omega) (fun c38 => by omega) (fun c38 => ?_)
      refine V_iconst 0 d_mo_oneOf_41 ?_
      refine V_goto 47 d_mo_oneOf_42 (by decide) ?_
      refine V_ireturn d_mo_oneOf_47 (hR _ _ ?_)
      exact ⟨t2, k1.tr k2, by decide, fun v q d h => by cases h⟩
    · rw [if_neg n1] at hR
      refine V_aload_0 d_mo_oneOf_5 ?_
      refine V_iload_1 d_mo_oneOf_6 ?_
      refine V_lload_2 d_mo_oneOf_7 ?_
      refine V_cvI2 d_mo_oneOf_8 ml_mo_244 mv_mo_nameOf (by decide) (Nat.le_of_ble_eq_true rfl) is_mo (ok_nameOf hM1 hW hk x1 (v' := pk32 l) (hM1.iff hk ln)) ?_
      rintro _ f2 ⟨rfl, e2⟩
      rw [e2]; clear e2 f2
      refine V_istore_4 d_mo_oneOf_11 rfl ?_
      refine V_aload_0 d_mo_oneOf_13 ?_
      refine V_getI d_mo_oneOf_14 fl_mo_185 is_mo ?_
      rw [b1]
      refine V_if_ne 35 d_mo_oneOf_17 (by decide) (by omega) (fun c17 => by omega) (fun c17 => ?_)
      refine V_iload_4 d_mo_oneOf_20 ?_
      refine V_iconst (-1) d_mo_oneOf_22 ?_
      refine V_icmp_ne 35 d_mo_oneOf_23 (by decide) (by omega) (by omega) (fun c23 => ?_) (fun c23 => by omega)
      refine V_iload_4 d_mo_oneOf_35 ?_
      refine V_iconst (-1) d_mo_oneOf_37 ?_
      refine V_icmp_ne 45 d_mo_oneOf_38 (by decide) (by omega) (by omega) (fun c38 => ?_) (fun c38 => by omega)
      refine V_iload_4 d_mo_oneOf_45 ?_
      refine V_ireturn d_mo_oneOf_47 (hR _ _ ?_)
      exact ⟨t1, k1, by omega, fun v q d h => by cases h; exact ⟨rfl, fun p' e' h' => by rw [hs0] at h'; cases h'; exact x3⟩⟩
  refine V_aload_0 d_mo_oneOf_0 ?_
  refine V_cvL0 d_mo_oneOf_1 ml_mo_240 mv_mo_name (by decide) (Nat.le_of_ble_eq_true rfl) is_mo (ok_name hT hw) ?_
  rintro x F ⟨t1, k1, x1, h1⟩
  refine V_lstore_2 d_mo_oneOf_4 rfl ?_
  cases s with
  | inl e0 => exact bad F x e0 t1 k1 x1 rfl
  | inr u =>
    obtain ⟨p, e⟩ := u
    have hn : rb (.inr (p, e) : q_R (Int × Int)) (fun s => l_name T N s.1 s.2) = l_name T N p e := rfl
    rw [hn] at t1 h1
    cases hl : l_name T N p e with
    | inl e0 =>
      rw [hl] at t1
      exact bad F x e0 t1 k1 x1 (by show sOld S T N k p e = _; unfold sOld; rw [hl]; rfl)
    | inr w =>
      obtain ⟨l, q, d⟩ := w
      obtain ⟨x2, x3⟩ := h1 l q d hl
      rw [hl] at t1
      rw [x2]
      exact good F p e q d l rfl hl t1 k1 (x3 p e rfl)
theorem ok_isFull (hT : mpS f T N (.inr (p, e))) {k m w : Int} (hk : 0 ≤ k ∧ k < 7) (hm0 : 0 ≤ m ∧ m ≤ 1000) (hc : 0 ≤ f 246 k ∧ f 246 k ≤ 1000) : OkI D m_mo_isFull [vr D 219, vi k, vi m, vi w] (Zg g h) f (fun x f' => (x = 1 ∧ f 246 k = m ∧ mpS f' T N (.inl (5, w)) ∧ mK f f') ∨ (x = 0 ∧ ¬ f 246 k = m ∧ f' = f)) := by
  have b0 := hT.2.2.2.1
  refine OkB_of (L0 := [vr D 219, vi k, vi m, vi w]) mi_mo_isFull rfl rfl (Nat.le_of_ble_eq_true rfl) (fun C hR => ?_)
  by_cases hm : f 246 k = m
  · skip
    refine V_aload_0 d_mo_isFull_0 ?_
    refine V_getI d_mo_isFull_1 fl_mo_185 is_mo ?_
    rw [b0]
    refine V_if_ne 23 d_mo_isFull_4 (by decide) (by omega) (fun c4 => by omega) (fun c4 => ?_)
    refine V_aload_0 d_mo_isFull_7 ?_
    refine V_getR d_mo_isFull_8 fl_mo_93 is_mo r_mo_many ?_
    refine V_iload_1 d_mo_isFull_11 ?_
    refine V_iald d_mo_isFull_12 is_mo_many (by omega) (by omega) ?_
    refine V_iload_2 d_mo_isFull_13 ?_
    refine V_icmp_ne 23 d_mo_isFull_14 (by decide) (by omega) (by omega) (fun c14 => by omega) (fun c14 => ?_)
    refine V_aload_0 d_mo_isFull_17 ?_
    refine V_iconst 5 d_mo_isFull_18 ?_
    refine V_iload_3 d_mo_isFull_19 ?_
    refine V_cvV2 d_mo_isFull_20 ml_mo_215 mv_mo_fail (by decide) (Nat.le_of_ble_eq_true rfl) is_mo (ok_mfail hT (by decide)) ?_
    rintro F2 ⟨t2, k2⟩
    have t2 : mpS F2 T N (.inl (5, w)) := t2
    have b2 := t2.2.2.2.1
    refine V_aload_0 d_mo_isFull_23 ?_
    refine V_getI d_mo_isFull_24 fl_mo_185 is_mo ?_
    rw [b2]
    refine V_if_eq 34 d_mo_isFull_27 (by decide) (by omega) (fun c27 => by omega) (fun c27 => ?_)
    refine V_iconst 1 d_mo_isFull_30 ?_
    refine V_goto 35 d_mo_isFull_31 (by decide) ?_
    refine V_ireturn d_mo_isFull_35 (hR _ _ (by decide) ?_)
    exact Or.inl ⟨rfl, hm, t2, k2⟩
  · skip
    refine V_aload_0 d_mo_isFull_0 ?_
    refine V_getI d_mo_isFull_1 fl_mo_185 is_mo ?_
    rw [b0]
    refine V_if_ne 23 d_mo_isFull_4 (by decide) (by omega) (fun c4 => by omega) (fun c4 => ?_)
    refine V_aload_0 d_mo_isFull_7 ?_
    refine V_getR d_mo_isFull_8 fl_mo_93 is_mo r_mo_many ?_
    refine V_iload_1 d_mo_isFull_11 ?_
    refine V_iald d_mo_isFull_12 is_mo_many (by omega) (by omega) ?_
    refine V_iload_2 d_mo_isFull_13 ?_
    refine V_icmp_ne 23 d_mo_isFull_14 (by decide) (by omega) (by omega) (fun c14 => ?_) (fun c14 => by omega)
    refine V_aload_0 d_mo_isFull_23 ?_
    refine V_getI d_mo_isFull_24 fl_mo_185 is_mo ?_
    rw [b0]
    refine V_if_eq 34 d_mo_isFull_27 (by decide) (by omega) (fun c27 => ?_) (fun c27 => by omega)
    refine V_iconst 0 d_mo_isFull_34 ?_
    refine V_ireturn d_mo_isFull_35 (hR _ _ (by decide) ?_)
    exact Or.inr ⟨rfl, hm, rfl⟩
end RN1
