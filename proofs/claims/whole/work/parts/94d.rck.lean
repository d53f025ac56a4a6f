/-! the class reckons codes -/
/-- a stack in the class's cells -/
def kS (f : q_F) (st : List Int) : Prop := f 4 7 = st.length ∧ ∀ i : Nat, i < st.length → f 9 i = st.getD (st.length - 1 - i) 0
def knS (f : q_F) (E : Int → Int) : Prop := f 8 3 = E 7 ∧ f 8 9 = E 8 ∧ f 8 10 = E 9 ∧ f 8 20 = E 10 ∧ f 8 21 = E 18 ∧ f 8 22 = E 19 ∧ f 8 19 = 1
def kK (f f' : q_F) : Prop := ∀ j k, ¬ j = 9 → ¬ (j = 4 ∧ k = 7) → f' j k = f j k
def bdL (st : List Int) : Prop := ∀ x ∈ st, bd6 x
section RCK
variable {D : q_D} {f f' f'' : q_F} {A : q_As} {g h : Int} {E : Int → Int}
theorem kK.refl (f : q_F) : kK f f := fun _ _ _ _ => rfl
theorem kK.tr (h1 : kK f f') (h2 : kK f' f'') : kK f f'' := fun j k a b => by rw [h2 j k a b]; exact h1 j k a b
theorem knS.fr (h : knS f E) (hk : kK f f') : knS f' E := by
  obtain ⟨h1, h2, h3, h4, h5, h6, h7⟩ := h
  exact ⟨by rw [hk _ _ (by decide) (by decide)]; exact h1, by rw [hk _ _ (by decide) (by decide)]; exact h2, by rw [hk _ _ (by decide) (by decide)]; exact h3, by rw [hk _ _ (by decide) (by decide)]; exact h4, by rw [hk _ _ (by decide) (by decide)]; exact h5, by rw [hk _ _ (by decide) (by decide)]; exact h6, by rw [hk _ _ (by decide) (by decide)]; exact h7⟩
theorem kS.top {x : Int} {st : List Int} (hK : kS f (x :: st)) : f 4 7 = (st.length : Int) + 1 ∧ f 9 st.length = x := by
  refine ⟨by rw [hK.1, List.length_cons]; push_cast; rfl, ?_⟩
  rw [hK.2 st.length (by rw [List.length_cons]; omega), List.length_cons, show st.length + 1 - 1 - st.length = 0 by omega]; rfl
theorem kS.pop {x : Int} {st : List Int} (hK : kS f (x :: st)) (h1 : f' 4 7 = st.length) (h2 : ∀ k, f' 9 k = f 9 k) : kS f' st := by
  refine ⟨h1, fun i hi => ?_⟩
  rw [h2, hK.2 i (by rw [List.length_cons]; omega), List.length_cons, show st.length + 1 - 1 - i = (st.length - 1 - i) + 1 by omega]; rfl
theorem kS.push {x : Int} {st : List Int} (hK : kS f st) (h1 : f' 4 7 = (st.length : Int) + 1) (h2 : f' 9 st.length = x) (h3 : ∀ k : Int, ¬ k = st.length → f' 9 k = f 9 k) : kS f' (x :: st) := by
  refine ⟨by rw [h1, List.length_cons]; push_cast; rfl, fun i hi => ?_⟩
  rw [List.length_cons] at hi ⊢
  by_cases e : i = st.length
  · subst e; rw [h2, show st.length + 1 - 1 - st.length = 0 by omega]; rfl
  · rw [h3 _ (by omega), hK.2 i (by omega), show st.length + 1 - 1 - i = (st.length - 1 - i) + 1 by omega]; rfl
theorem ok_push {st : List Int} (hK : kS f st) (hl : st.length < 64) {v : Int} : OkV D m_ru_push [vr D 4, vi v] (Zg g h) f (fun f' => kS f' (v :: st) ∧ kK f f') := by
  have h1 := hK.1
  refine OkV_of (L0 := [vr D 4, vi v]) mi_ru_push rfl rfl (Nat.le_of_ble_eq_true rfl) (fun C hR => ?_)
  refine V_aload_0 d_ru_push_0 ?_
  refine V_getI d_ru_push_1 fl_ru_143 is_ru ?_
  rw [h1]
  refine V_aload_0 d_ru_push_4 ?_
  refine V_getR d_ru_push_5 fl_ru_26 is_ru r_ru_stack ?_
  refine V_alen d_ru_push_8 is_ru_stack (by decide) rfl (by decide) ?_
  refine V_icmp_ge 32 d_ru_push_9 (by decide) (by omega) (by omega) (fun c9 => by omega) (fun c9 => ?_)
  refine V_aload_0 d_ru_push_12 ?_
  refine V_getR d_ru_push_13 fl_ru_26 is_ru r_ru_stack ?_
  refine V_aload_0 d_ru_push_16 ?_
  refine V_getI d_ru_push_17 fl_ru_143 is_ru ?_
  rw [h1]
  refine V_iload_1 d_ru_push_20 ?_
  refine V_iast d_ru_push_21 is_ru_stack (by omega) (by omega) ?_
  refine V_aload_0 d_ru_push_22 ?_
  refine V_dup d_ru_push_23 rfl ?_
  refine V_getI d_ru_push_24 fl_ru_143 is_ru ?_
  rw [q_up_ne (by omega), h1]
  refine V_iconst 1 d_ru_push_27 ?_
  refine V_iadd d_ru_push_28 ?_
  refine V_putI d_ru_push_29 fl_ru_143 is_ru ?_
  refine V_return d_ru_push_32 (hR _ ?_)
  refine ⟨hK.push ?_ ?_ (fun k hk => ?_), fun j k a b => ?_⟩
  · rw [q_up_eq]
  · rw [q_up_ne (by omega), q_up_eq]
  · rw [q_up_ne (by omega), q_up_ne (Or.inr hk)]
  · rw [q_up_ne (by omega), q_up_at a]
theorem ok_pop {st : List Int} {v : Int} (hK : kS f (v :: st)) (hl : st.length < 64) : OkI D m_ru_pop [vr D 4] (Zg g h) f (fun x f' => x = v ∧ kS f' st ∧ kK f f') := by
  have h1 := hK.top
  refine OkI_of (L0 := [vr D 4]) mi_ru_pop rfl rfl (Nat.le_of_ble_eq_true rfl) (fun C hR => ?_)
  refine V_aload_0 d_ru_pop_0 ?_
  refine V_getI d_ru_pop_1 fl_ru_143 is_ru ?_
  rw [h1.1]
  refine V_if_ne 9 d_ru_pop_4 (by decide) (by omega) (fun c4 => ?_) (fun c4 => by omega)
  refine V_aload_0 d_ru_pop_9 ?_
  refine V_dup d_ru_pop_10 rfl ?_
  refine V_getI d_ru_pop_11 fl_ru_143 is_ru ?_
  rw [h1.1]
  refine V_iconst 1 d_ru_pop_14 ?_
  refine V_isub d_ru_pop_15 ?_
  refine V_putI d_ru_pop_16 fl_ru_143 is_ru ?_
  refine V_aload_0 d_ru_pop_19 ?_
  refine V_getR d_ru_pop_20 fl_ru_26 is_ru r_ru_stack ?_
  refine V_aload_0 d_ru_pop_23 ?_
  refine V_getI d_ru_pop_24 fl_ru_143 is_ru ?_
  rw [q_up_eq, show (st.length : Int) + 1 - 1 = st.length by omega]
  refine V_iald d_ru_pop_27 is_ru_stack (by omega) (by omega) ?_
  refine V_ireturn d_ru_pop_28 (hR _ _ ?_)
  refine ⟨?_, hK.pop ?_ (fun k => ?_), fun j k a b => ?_⟩
  · rw [q_up_ne (by omega)]; exact h1.2
  · rw [q_up_eq]
  · rw [q_up_ne (by omega)]
  · rw [q_up_ne (by omega)]
theorem clp_mm (x : Int) : max (-1000000) (min 1000000 x) = clp x := by
  unfold clp
  split
  · omega
  · split <;> omega
theorem ok_bounded {x : Int} (hx : -9000000000000 ≤ x ∧ x ≤ 9000000000000) : OkI D m_ru_bounded [vl x] (Zg g h) f (fun r f' => r = clp x ∧ f' = f) := by
  refine OkI_of (L0 := [vl x, vu]) mi_ru_bounded rfl rfl (Nat.le_of_ble_eq_true rfl) (fun C hR => ?_)
  refine V_ldc2 (-1000000) d_ru_bounded_0 co_ru_167 rfl ?_
  refine V_ldc2 1000000 d_ru_bounded_3 co_ru_169 rfl ?_
  refine V_lload_0 d_ru_bounded_6 ?_
  refine V_csL2 d_ru_bounded_7 ml_ru_171 ms_jm_minL (by decide) (Nat.le_of_ble_eq_true rfl) (ok_minL (by omega) (by omega)) ?_
  rintro _ f2 ⟨rfl, e2⟩
  rw [e2]; clear e2 f2
  refine V_csL2 d_ru_bounded_10 ml_ru_174 ms_jm_maxL (by decide) (Nat.le_of_ble_eq_true rfl) (ok_maxL (by omega) (by omega)) ?_
  rintro _ f2 ⟨rfl, e2⟩
  rw [e2]; clear e2 f2
  refine V_l2i d_ru_bounded_13 ?_
  refine V_ireturn d_ru_bounded_14 (hR _ _ ?_)
  exact ⟨clp_mm x, rfl⟩
theorem q_xor_sg {x y : Int} (hx : -2147483648 ≤ x ∧ x < 2147483648) (hy : -2147483648 ≤ y ∧ y < 2147483648) : (q_xor x y < 0 ↔ ¬ (x < 0 ↔ y < 0)) ∧ (-2147483648 ≤ q_xor x y ∧ q_xor x y < 2147483648) := by
  unfold q_xor
  have h1 : (Int32.ofInt x).toBitVec.msb = decide ((Int32.ofInt x).toInt < 0) := BitVec.msb_eq_toInt
  have h2 : (Int32.ofInt y).toBitVec.msb = decide ((Int32.ofInt y).toInt < 0) := BitVec.msb_eq_toInt
  have h3 : (Int32.ofInt x ^^^ Int32.ofInt y).toBitVec.msb = decide ((Int32.ofInt x ^^^ Int32.ofInt y).toInt < 0) := BitVec.msb_eq_toInt
  have h4 : (Int32.ofInt x ^^^ Int32.ofInt y).toBitVec.msb = ((Int32.ofInt x).toBitVec.msb ^^ (Int32.ofInt y).toBitVec.msb) := BitVec.msb_xor
  rw [q_ti hx] at h1
  rw [q_ti hy] at h2
  rw [h3, h1, h2] at h4
  refine ⟨?_, Int32.le_toInt _, Int32.toInt_lt _⟩
  by_cases a : x < 0
  · by_cases b : y < 0
    · rw [decide_eq_true a, decide_eq_true b] at h4
      have := of_decide_eq_false h4
      constructor
      · intro hh; exact absurd hh this
      · intro hh; exact absurd ⟨fun _ => b, fun _ => a⟩ hh
    · rw [decide_eq_true a, decide_eq_false b] at h4
      have := of_decide_eq_true h4
      exact ⟨fun _ hh => b (hh.mp a), fun _ => this⟩
  · by_cases b : y < 0
    · rw [decide_eq_false a, decide_eq_true b] at h4
      have := of_decide_eq_true h4
      exact ⟨fun _ hh => a (hh.mpr b), fun _ => this⟩
    · rw [decide_eq_false a, decide_eq_false b] at h4
      have := of_decide_eq_false h4
      constructor
      · intro hh; exact absurd hh this
      · intro hh; exact absurd ⟨fun x => absurd x a, fun x => absurd x b⟩ hh
theorem ok_floorDiv {x y : Int} (hx : bd6 x) (hy : bd6 y) (h0 : ¬ y = 0) : OkI D m_jm_floorDiv [vi x, vi y] (Zg g h) f (fun r f' => r = flr x y ∧ f' = f) := by
  have hs := q_xor_sg (x := x) (y := y) (by omega) (by omega)
  have hd : x.tmod y + y * x.tdiv y = x := Int.tmod_add_mul_tdiv x y
  have hn : (x.tdiv y * y).natAbs ≤ x.natAbs := by
    rw [Int.natAbs_mul, Int.natAbs_tdiv]; exact Nat.div_mul_le_self _ _
  have hn2 : (x.tdiv y).natAbs ≤ x.natAbs := by
    rw [Int.natAbs_tdiv]; exact Nat.div_le_self _ _
  have hm : x.tdiv y * y = x ↔ x.tmod y = 0 := by
    rw [Int.mul_comm y] at hd
    constructor <;> intro e <;> omega
  refine OkI_of (L0 := [vi x, vi y, vu]) mi_jm_floorDiv rfl rfl (Nat.le_of_ble_eq_true rfl) (fun C hR => ?_)
  refine V_iload_0 d_jm_floorDiv_0 ?_
  refine V_iload_1 d_jm_floorDiv_1 ?_
  refine V_idivT d_jm_floorDiv_2 (by omega) (by omega) h0 ?_
  refine V_istore_2 d_jm_floorDiv_3 rfl ?_
  refine V_iload_0 d_jm_floorDiv_4 ?_
  refine V_iload_1 d_jm_floorDiv_5 ?_
  refine V_ixor d_jm_floorDiv_6 ?_
  refine V_if_ge 21 d_jm_floorDiv_7 (by decide) (hs.2) (fun c7 => ?_) (fun c7 => ?_)
  · skip
    refine V_iload_2 d_jm_floorDiv_21 ?_
    refine V_ireturn d_jm_floorDiv_22 (hR _ _ ?_)
    refine ⟨?_, rfl⟩
    unfold flr
    rw [if_neg h0]
    by_cases hc : ¬ x.tmod y = 0 ∧ ¬ (x < 0 ↔ y < 0)
    · exfalso
      have := hs.1.mpr hc.2
      first | omega | exact hc.1 (hm.mp c14)
    · rw [if_neg hc]
  · skip
    refine V_iload_2 d_jm_floorDiv_10 ?_
    refine V_iload_1 d_jm_floorDiv_11 ?_
    refine V_imul d_jm_floorDiv_12 ?_
    refine V_iload_0 d_jm_floorDiv_13 ?_
    refine V_icmp_eq 21 d_jm_floorDiv_14 (by decide) (by omega) (by omega) (fun c14 => ?_) (fun c14 => ?_)
    · skip
      refine V_iload_2 d_jm_floorDiv_21 ?_
      refine V_ireturn d_jm_floorDiv_22 (hR _ _ ?_)
      refine ⟨?_, rfl⟩
      unfold flr
      rw [if_neg h0]
      by_cases hc : ¬ x.tmod y = 0 ∧ ¬ (x < 0 ↔ y < 0)
      · exfalso
        have := hs.1.mpr hc.2
        first | omega | exact hc.1 (hm.mp c14)
      · rw [if_neg hc]
    · skip
      refine V_iload_2 d_jm_floorDiv_17 ?_
      refine V_iconst 1 d_jm_floorDiv_18 ?_
      refine V_isub d_jm_floorDiv_19 ?_
      refine V_ireturn d_jm_floorDiv_20 (hR _ _ ?_)
      refine ⟨?_, rfl⟩
      unfold flr
      rw [if_neg h0, if_pos ⟨fun e => c14 (hm.mpr e), hs.1.mp (by omega)⟩]
end RCK
