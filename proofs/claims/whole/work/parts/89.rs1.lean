/-! the reference reads sums: what waits, what is told -/
def wS (f : q_F) (K : List Int) : Prop := f 219 50 = K.length ∧ (∀ i : Nat, i < K.length → f 256 i = K.getD (K.length - 1 - i) 0) ∧ ∀ x ∈ K, 0 ≤ x ∧ x ≤ 25
def rcS (f : q_F) (L : List Int) : Prop := f 219 48 = L.length ∧ ∀ k : Nat, k < L.length → f 255 k = L.getD k 0
def mR (f : q_F) (T : Int → Int) (N : Int) (K L : List Int) (o p e : Int) : Prop := mpS f T N (.inr (p, e)) ∧ wS f K ∧ rcS f L ∧ f 219 51 = o ∧ ((L.length : Int) + K.length ≤ p)
def mBd (f : q_F) (T : Int → Int) (N : Int) (e : Int × Int) : Prop := mpS f T N (.inl e) ∧ (0 ≤ f 219 48 ∧ f 219 48 ≤ 1602)
def mQ (f f' : q_F) : Prop := ∀ j k, ¬ (j = 219 ∧ (k = 2 ∨ k = 4 ∨ k = 5 ∨ k = 6 ∨ k = 34 ∨ k = 48 ∨ k = 50 ∨ k = 51)) → ¬ j = 255 → ¬ j = 256 → f' j k = f j k
section RS1
variable {D : q_D} {f f' : q_F} {A : q_As} {g h : Int} {T : Int → Int} {N p e : Int}
theorem mQ.refl (f : q_F) : mQ f f := fun _ _ _ _ _ => rfl
theorem mQ.tr {f'' : q_F} (h : mQ f f') (h2 : mQ f' f'') : mQ f f'' := fun j k a b c => by rw [h2 j k a b c]; exact h j k a b c
theorem mK.q (h : mK f f') : mQ f f' := fun j k a _ _ => h j k (by omega)
theorem mW.q (h : mW f) (hq : mQ f f') : mW f' := fun i hi k hk => by rw [hq _ _ (by omega) (by omega) (by omega)]; exact h i hi k hk
theorem mpS.fr {s : q_R (Int × Int)} (hT : mpS f T N s) (hf : ∀ j k, j = 220 ∨ (j = 219 ∧ (k = 2 ∨ k = 3 ∨ k = 4 ∨ k = 5 ∨ k = 6)) → f' j k = f j k) : mpS f' T N s := by
  obtain ⟨h0, h1, h2, h3⟩ := hT
  refine ⟨h0, by rw [hf _ _ (by omega)]; exact h1, fun k k0 k1 => by rw [hf _ _ (by omega)]; exact h2 k k0 k1, ?_⟩
  cases s with
  | inl e => exact ⟨by rw [hf _ _ (by omega)]; exact h3.1, by rw [hf _ _ (by omega)]; exact h3.2.1, h3.2.2⟩
  | inr s =>
    obtain ⟨a1, a2, a3, a4, a5, a6⟩ := h3
    exact ⟨by rw [hf _ _ (by omega)]; exact a1, by rw [hf _ _ (by omega)]; exact a2, by rw [hf 219 2 (by omega)]; exact a3, by rw [hf 219 2 (by omega)]; exact a4, by rw [hf _ _ (by omega)]; exact a5, a6⟩
theorem wS.fr {K : List Int} (hK : wS f K) (hf : ∀ j k, j = 256 ∨ (j = 219 ∧ k = 50) → f' j k = f j k) : wS f' K := ⟨by rw [hf _ _ (by omega)]; exact hK.1, fun i hi => by rw [hf _ _ (by omega)]; exact hK.2.1 i hi, hK.2.2⟩
theorem rcS.fr {L : List Int} (hL : rcS f L) (hf : ∀ j k, j = 255 ∨ (j = 219 ∧ k = 48) → f' j k = f j k) : rcS f' L := ⟨by rw [hf _ _ (by omega)]; exact hL.1, fun i hi => by rw [hf _ _ (by omega)]; exact hL.2 i hi⟩
theorem mR.mk {K L : List Int} {o p' e' : Int} (h : mR f T N K L o p e) (hk : mK f f') (hs : mpS f' T N (.inr (p', e'))) (hp : p ≤ p') : mR f' T N K L o p' e' :=
  ⟨hs, h.2.1.fr (fun j k hj => hk j k (by omega)), h.2.2.1.fr (fun j k hj => hk j k (by omega)), by rw [hk _ _ (by omega)]; exact h.2.2.2.1, by have := h.2.2.2.2; omega⟩
theorem mR.rg {K L : List Int} {o : Int} (h : mR f T N K L o p e) : 0 ≤ p ∧ p ≤ N ∧ N ≤ 1600 ∧ (L.length : Int) + K.length ≤ p := by
  have := h.1.pr
  have := h.2.2.2.2
  omega
theorem ok_code {L : List Int} (hL : rcS f L) (hl : (L.length : Int) ≤ 1602) {v : Int} : OkV D m_mo_code [vr D 219, vi v] (Zg g h) f (fun f' => rcS f' (L ++ [v]) ∧ ∀ j k, ¬ j = 255 → ¬ (j = 219 ∧ k = 48) → f' j k = f j k) := by
  refine OkV_of (L0 := [vr D 219, vi v]) mi_mo_code rfl rfl (Nat.le_of_ble_eq_true rfl) (fun C hR => ?_)
  refine V_aload_0 d_mo_code_0 ?_
  refine V_getR d_mo_code_1 fl_mo_121 is_mo r_mo_codes ?_
  refine V_iconst 0 d_mo_code_4 ?_
  refine V_aload_0 d_mo_code_5 ?_
  refine V_getI d_mo_code_6 fl_mo_274 is_mo ?_
  rw [hL.1]
  refine V_iadd d_mo_code_9 ?_
  refine V_iload_1 d_mo_code_10 ?_
  refine V_iast d_mo_code_11 is_mo_codes (by omega) (by omega) ?_
  refine V_aload_0 d_mo_code_12 ?_
  refine V_dup d_mo_code_13 rfl ?_
  refine V_getI d_mo_code_14 fl_mo_274 is_mo ?_
  rw [q_up_at (by decide), hL.1]
  refine V_iconst 1 d_mo_code_17 ?_
  refine V_iadd d_mo_code_18 ?_
  refine V_putI d_mo_code_19 fl_mo_274 is_mo ?_
  refine V_return d_mo_code_22 (hR _ ?_)
  refine ⟨⟨?_, fun k hk => ?_⟩, fun j k a b => by rw [q_up_ne (by omega), q_up_at a]⟩
  · rw [q_up_eq, List.length_append]; rfl
  · rw [List.length_append] at hk
    simp only [List.length_cons, List.length_nil] at hk
    rw [q_up_at (by decide)]
    by_cases e : k = L.length
    · subst e
      rw [q_up_is (by omega), gd_r]
    · rw [q_up_ne (Or.inr (by omega)), gd_l (by omega)]
      exact hL.2 k (by omega)
/-- where only the count of codes is known -/
theorem ok_codeB (hl : 0 ≤ f 219 48 ∧ f 219 48 ≤ 1602) {v : Int} : OkV D m_mo_code [vr D 219, vi v] (Zg g h) f (fun f' => f' 219 48 = f 219 48 + 1 ∧ ∀ j k, ¬ j = 255 → ¬ (j = 219 ∧ k = 48) → f' j k = f j k) := by
  refine OkV_of (L0 := [vr D 219, vi v]) mi_mo_code rfl rfl (Nat.le_of_ble_eq_true rfl) (fun C hR => ?_)
  refine V_aload_0 d_mo_code_0 ?_
  refine V_getR d_mo_code_1 fl_mo_121 is_mo r_mo_codes ?_
  refine V_iconst 0 d_mo_code_4 ?_
  refine V_aload_0 d_mo_code_5 ?_
  refine V_getI d_mo_code_6 fl_mo_274 is_mo ?_
  refine V_iadd d_mo_code_9 ?_
  refine V_iload_1 d_mo_code_10 ?_
  refine V_iast d_mo_code_11 is_mo_codes (by omega) (by omega) ?_
  refine V_aload_0 d_mo_code_12 ?_
  refine V_dup d_mo_code_13 rfl ?_
  refine V_getI d_mo_code_14 fl_mo_274 is_mo ?_
  rw [q_up_at (by decide)]
  refine V_iconst 1 d_mo_code_17 ?_
  refine V_iadd d_mo_code_18 ?_
  refine V_putI d_mo_code_19 fl_mo_274 is_mo ?_
  refine V_return d_mo_code_22 (hR _ ?_)
  exact ⟨q_up_eq _ _ _ _, fun j k a b => by rw [q_up_ne (by omega), q_up_at a]⟩
theorem wS.top {x : Int} {K : List Int} (hK : wS f (x :: K)) : f 219 50 = (K.length : Int) + 1 ∧ f 256 K.length = x ∧ (0 ≤ x ∧ x ≤ 25) := by
  refine ⟨by rw [hK.1, List.length_cons]; push_cast; rfl, ?_, hK.2.2 x (List.mem_cons_self ..)⟩
  rw [hK.2.1 K.length (by rw [List.length_cons]; omega), List.length_cons, show K.length + 1 - 1 - K.length = 0 by omega]; rfl
theorem wS.pop {x : Int} {K : List Int} (hK : wS f (x :: K)) (h1 : f' 219 50 = K.length) (h2 : ∀ k, f' 256 k = f 256 k) : wS f' K := by
  refine ⟨h1, fun i hi => ?_, fun y hy => hK.2.2 y (List.mem_cons_of_mem _ hy)⟩
  rw [h2, hK.2.1 i (by rw [List.length_cons]; omega), List.length_cons, show K.length + 1 - 1 - i = (K.length - 1 - i) + 1 by omega]; rfl
theorem wS.push {x : Int} {K : List Int} (hK : wS f K) (hx : 0 ≤ x ∧ x ≤ 25) (h1 : f' 219 50 = (K.length : Int) + 1) (h2 : f' 256 K.length = x) (h3 : ∀ k : Int, ¬ k = K.length → f' 256 k = f 256 k) : wS f' (x :: K) := by
  refine ⟨by rw [h1, List.length_cons]; push_cast; rfl, fun i hi => ?_, fun y hy => ?_⟩
  · rw [List.length_cons] at hi ⊢
    by_cases e : i = K.length
    · subst e; rw [h2, show K.length + 1 - 1 - K.length = 0 by omega]; rfl
    · rw [h3 _ (by omega), hK.2.1 i (by omega), show K.length + 1 - 1 - i = (K.length - 1 - i) + 1 by omega]; rfl
  · rcases List.mem_cons.mp hy with e | e
    · rw [e]; exact hx
    · exact hK.2.2 y e
theorem ok_drops {x : Int} {K L : List Int} (hK : wS f (x :: K)) (hL : rcS f L) (hn : (K.length : Int) < 1700) (hl : (L.length : Int) ≤ 1602) : OkV D m_mo_drops [vr D 219] (Zg g h) f (fun f' => wS f' K ∧ rcS f' (L ++ [x]) ∧ ∀ j k, ¬ j = 255 → ¬ (j = 219 ∧ (k = 48 ∨ k = 50)) → f' j k = f j k) := by
  obtain ⟨h1, h2, h3⟩ := hK.top
  refine OkV_of (L0 := [vr D 219]) mi_mo_drops rfl rfl (Nat.le_of_ble_eq_true rfl) (fun C hR => ?_)
  refine V_aload_0 d_mo_drops_0 ?_
  refine V_dup d_mo_drops_1 rfl ?_
  refine V_getI d_mo_drops_2 fl_mo_277 is_mo ?_
  rw [h1]
  refine V_iconst 1 d_mo_drops_5 ?_
  refine V_isub d_mo_drops_6 ?_
  rw [show (K.length : Int) + 1 - 1 = K.length by omega]
  refine V_putI d_mo_drops_7 fl_mo_277 is_mo ?_
  refine V_aload_0 d_mo_drops_10 ?_
  refine V_aload_0 d_mo_drops_11 ?_
  refine V_getR d_mo_drops_12 fl_mo_124 is_mo r_mo_wait ?_
  refine V_aload_0 d_mo_drops_15 ?_
  refine V_getI d_mo_drops_16 fl_mo_277 is_mo ?_
  rw [q_up_eq]
  refine V_iald d_mo_drops_19 is_mo_wait (by omega) (by omega) ?_
  rw [q_up_at (by decide), h2]
  refine V_cvV1 d_mo_drops_20 ml_mo_347 mv_mo_code (by decide) (Nat.le_of_ble_eq_true rfl) is_mo (ok_code (f := q_up f 219 50 K.length) (hL.fr (fun j k hj => q_up_ne (by omega))) hl) ?_
  rintro F ⟨hc, hf⟩
  refine V_return d_mo_drops_23 (hR _ ?_)
  refine ⟨hK.pop (by rw [hf _ _ (by decide) (by decide), q_up_eq]) (fun k => by rw [hf _ _ (by decide) (by omega), q_up_at (by decide)]), hc, fun j k a b => by rw [hf j k a (by omega), q_up_ne (by omega)]⟩
theorem ok_isOn {K : List Int} (hK : wS f K) (hn : (K.length : Int) ≤ 1700) {c : Int} (hc : 0 ≤ c ∧ c ≤ 25) : OkI D m_mo_isOn [vr D 219, vi c] (Zg g h) f (fun x f' => ((x = 1 ∧ ∃ K', K = c :: K') ∨ (x = 0 ∧ ¬ ∃ K', K = c :: K')) ∧ f' = f) := by
  refine OkB_of (L0 := [vr D 219, vi c]) mi_mo_isOn rfl rfl (Nat.le_of_ble_eq_true rfl) (fun C hR => ?_)
  cases K with
  | nil =>
    have h1 : f 219 50 = 0 := hK.1
    refine V_aload_0 d_mo_isOn_0 ?_
    refine V_getI d_mo_isOn_1 fl_mo_277 is_mo ?_
    rw [h1]
    refine V_if_le 26 d_mo_isOn_4 (by decide) (by omega) (fun c4 => ?_) (fun c4 => by omega)
    refine V_iconst 0 d_mo_isOn_26 ?_
    refine V_ireturn d_mo_isOn_27 (hR _ _ (by decide) ?_)
    exact ⟨Or.inr ⟨rfl, fun h => by obtain ⟨K', h⟩ := h; cases h⟩, rfl⟩
  | cons x K =>
    obtain ⟨h1, h2, h3⟩ := hK.top
    rw [List.length_cons] at hn
    refine V_aload_0 d_mo_isOn_0 ?_
    refine V_getI d_mo_isOn_1 fl_mo_277 is_mo ?_
    rw [h1]
    refine V_if_le 26 d_mo_isOn_4 (by decide) (by omega) (fun c4 => by omega) (fun c4 => ?_)
    refine V_aload_0 d_mo_isOn_7 ?_
    refine V_getR d_mo_isOn_8 fl_mo_124 is_mo r_mo_wait ?_
    refine V_aload_0 d_mo_isOn_11 ?_
    refine V_getI d_mo_isOn_12 fl_mo_277 is_mo ?_
    rw [h1]
    refine V_iconst 1 d_mo_isOn_15 ?_
    refine V_isub d_mo_isOn_16 ?_
    rw [show (K.length : Int) + 1 - 1 = K.length by omega]
    refine V_iald d_mo_isOn_17 is_mo_wait (by omega) (by omega) ?_
    rw [h2]
    refine V_iload_1 d_mo_isOn_18 ?_
    refine V_icmp_ne 26 d_mo_isOn_19 (by decide) (by omega) (by omega) (fun c19 => ?_) (fun c19 => ?_)
    · skip
      refine V_iconst 0 d_mo_isOn_26 ?_
      refine V_ireturn d_mo_isOn_27 (hR _ _ (by decide) ?_)
      exact ⟨Or.inr ⟨rfl, fun h => by obtain ⟨K', h⟩ := h; cases h; exact c19 rfl⟩, rfl⟩
    · skip
      refine V_iconst 1 d_mo_isOn_22 ?_
      refine V_goto 27 d_mo_isOn_23 (by decide) ?_
      refine V_ireturn d_mo_isOn_27 (hR _ _ (by decide) ?_)
      exact ⟨Or.inl ⟨rfl, K, by rw [show x = c by omega]⟩, rfl⟩
theorem ok_isMark {c : Int} (hc : -2147483648 ≤ c ∧ c < 2147483648) : OkI D m_mo_isMark [vr D 219, vi c] (Zg g h) f (fun x f' => ((x = 1 ∧ isMk c = true) ∨ (x = 0 ∧ ¬ isMk c = true)) ∧ f' = f) := by
  refine OkB_of (L0 := [vr D 219, vi c]) mi_mo_isMark rfl rfl (Nat.le_of_ble_eq_true rfl) (fun C hR => ?_)
  refine V_iload_1 d_mo_isMark_0 ?_
  refine V_bipush 20 d_mo_isMark_1 (by decide) ?_
  refine V_icmp_lt 16 d_mo_isMark_3 (by decide) (by omega) (by omega) (fun c3 => ?_) (fun c3 => ?_)
  · skip
    refine V_iconst 0 d_mo_isMark_16 ?_
    refine V_ireturn d_mo_isMark_17 (hR _ _ (by decide) ?_)
    exact ⟨Or.inr ⟨rfl, by unfold isMk; simp; omega⟩, rfl⟩
  · skip
    refine V_iload_1 d_mo_isMark_6 ?_
    refine V_bipush 24 d_mo_isMark_7 (by decide) ?_
    refine V_icmp_gt 16 d_mo_isMark_9 (by decide) (by omega) (by omega) (fun c9 => ?_) (fun c9 => ?_)
    · skip
      refine V_iconst 0 d_mo_isMark_16 ?_
      refine V_ireturn d_mo_isMark_17 (hR _ _ (by decide) ?_)
      exact ⟨Or.inr ⟨rfl, by unfold isMk; simp; omega⟩, rfl⟩
    · skip
      refine V_iconst 1 d_mo_isMark_12 ?_
      refine V_goto 17 d_mo_isMark_13 (by decide) ?_
      refine V_ireturn d_mo_isMark_17 (hR _ _ (by decide) ?_)
      exact ⟨Or.inl ⟨rfl, by unfold isMk; simp; omega⟩, rfl⟩
theorem getD_drop0 (U K : List Int) (i : Nat) (hi : i < K.length) : (U ++ K).getD ((U ++ K).length - 1 - i) 0 = K.getD (K.length - 1 - i) 0 := by
  rw [List.getD_eq_getElem?_getD, List.getD_eq_getElem?_getD, List.length_append, List.getElem?_append_right (by omega), show U.length + K.length - 1 - i - U.length = K.length - 1 - i by omega]
theorem ok_mark {K K0 : List Int} (hK : wS f (K ++ K0)) (hb : f 219 55 = K0.length) (hn : ((K ++ K0).length : Int) ≤ 1700) : OkI D m_mo_mark [vr D 219] (Zg g h) f (fun x f' => x = tmk K ∧ f' = f) := by
  refine OkI_of (L0 := [vr D 219, vu]) mi_mo_mark rfl rfl (Nat.le_of_ble_eq_true rfl) (fun C hR => ?_)
  have loop : ∀ (M U : List Int), K = U ++ M → tmk M = tmk K → V D C m_mo_mark 7 [vr D 219, vi ((M.length : Int) + K0.length - 1)] [] (Zg g h) f := by
    intro M
    induction M with
    | nil =>
      intro U hU ht
      rw [List.length_append] at hn
      refine V_iload_1 d_mo_mark_7 ?_
      refine V_aload_0 d_mo_mark_8 ?_
      refine V_getI d_mo_mark_9 fl_mo_283 is_mo ?_
      rw [hb]
      refine V_icmp_lt 34 d_mo_mark_12 (by decide) (by simp; omega) (by omega) (fun c12 => ?_) (fun c12 => ?_)
      · skip
        refine V_iload_1 d_mo_mark_34 ?_
        refine V_aload_0 d_mo_mark_35 ?_
        refine V_getI d_mo_mark_36 fl_mo_283 is_mo ?_
        rw [hb]
        refine V_icmp_lt 51 d_mo_mark_39 (by decide) (by simp; omega) (by omega) (fun c39 => ?_) (fun c39 => ?_)
        · skip
          refine V_iconst (-1) d_mo_mark_51 ?_
          refine V_ireturn d_mo_mark_52 (hR _ _ ?_)
          exact ⟨ht, rfl⟩
        · skip
          simp at c39; omega
      · skip
        simp at c12; omega
    | cons x M ih =>
      intro U hU ht
      have hx := hK.2.2 x (by rw [hU]; simp)
      have hget : f 256 ((M.length : Int) + K0.length) = x := by
        have h1 := hK.2.1 (M.length + K0.length) (by rw [hU]; simp; omega)
        rw [hU, List.append_assoc, getD_drop0 U ((x :: M) ++ K0) _ (by simp)] at h1
        push_cast at h1
        rw [h1]
        simp
      have hlen : (K ++ K0).length = U.length + (M.length + 1) + K0.length := by rw [hU]; simp; omega
      rw [List.length_cons]
      have e1 : ((M.length + 1 : Nat) : Int) + K0.length - 1 = (M.length : Int) + K0.length := by push_cast; omega
      rw [e1]
      refine V_iload_1 d_mo_mark_7 ?_
      refine V_aload_0 d_mo_mark_8 ?_
      refine V_getI d_mo_mark_9 fl_mo_283 is_mo ?_
      rw [hb]
      refine V_icmp_lt 34 d_mo_mark_12 (by decide) (by omega) (by omega) (fun c12 => by omega) (fun c12 => ?_)
      refine V_aload_0 d_mo_mark_15 ?_
      refine V_aload_0 d_mo_mark_16 ?_
      refine V_getR d_mo_mark_17 fl_mo_124 is_mo r_mo_wait ?_
      refine V_iload_1 d_mo_mark_20 ?_
      refine V_iald d_mo_mark_21 is_mo_wait (by omega) (by omega) ?_
      rw [hget]
      refine V_cvI1 d_mo_mark_22 ml_mo_350 mv_mo_isMark (by decide) (Nat.le_of_ble_eq_true rfl) is_mo (ok_isMark (by omega)) ?_
      rintro x22 f2 ⟨hx22, e2⟩
      rw [e2]; clear e2 f2
      refine V_if_ne 34 d_mo_mark_25 (by decide) (by rcases hx22 with h | h <;> omega) (fun c25 => ?_) (fun c25 => ?_)
      · skip
        have hm := q_b1 hx22 c25
        refine V_iload_1 d_mo_mark_34 ?_
        refine V_aload_0 d_mo_mark_35 ?_
        refine V_getI d_mo_mark_36 fl_mo_283 is_mo ?_
        rw [hb]
        refine V_icmp_lt 51 d_mo_mark_39 (by decide) (by omega) (by omega) (fun c39 => by omega) (fun c39 => ?_)
        refine V_aload_0 d_mo_mark_42 ?_
        refine V_getR d_mo_mark_43 fl_mo_124 is_mo r_mo_wait ?_
        refine V_iload_1 d_mo_mark_46 ?_
        refine V_iald d_mo_mark_47 is_mo_wait (by omega) (by omega) ?_
        rw [hget]
        refine V_goto 52 d_mo_mark_48 (by decide) ?_
        refine V_ireturn d_mo_mark_52 (hR _ _ ?_)
        refine ⟨?_, rfl⟩
        rw [← ht]; show x = if isMk x then x else tmk M
        rw [if_pos hm]
      · skip
        have hm := q_b0 hx22 c25
        refine V_iinc_1 d_mo_mark_28 rfl ?_
        refine V_goto 7 d_mo_mark_31 (by decide) ?_
        refine ih (U ++ [x]) (by rw [hU]; simp) ?_
        rw [← ht]; show tmk M = if isMk x then x else tmk M
        rw [if_neg hm]
  have h1 := hK.1
  rw [List.length_append] at h1
  refine V_aload_0 d_mo_mark_0 ?_
  refine V_getI d_mo_mark_1 fl_mo_277 is_mo ?_
  rw [h1]
  refine V_iconst 1 d_mo_mark_4 ?_
  refine V_isub d_mo_mark_5 ?_
  refine V_istore_1 d_mo_mark_6 rfl ?_
  have := loop K [] rfl rfl
  push_cast
  exact this
end RS1
