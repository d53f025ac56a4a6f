/-! crews: the reference's answer; take -/
def S_take (A : q_As) (x l : Int) : Int := if x = 0 then -1 else match crV A x l with
  | none => -1
  | some v => v / 78125
/-- whom a crew gives a sighting -/
def tkN (A : q_As) (x v : Int) : Nat → Int → Int
  | 0, s => A 11 s 0
  | k + 1, s => if s = nth (bt x) k then dg v k else tkN A x v k s
def A_take (A : q_As) (x l : Int) : q_As := if x = 0 then A else match crV A x l with
  | none => A
  | some v => A_push A (tkN A x v (nOf (bt x)))
section MO18
variable {D : q_D} {f f' : q_F} {A : q_As} {g h : Int}
theorem ok_crewFor (hS : Mst f A) (hF : Wf A) {x l : Int} (hx : -2147483648 ≤ x ∧ x < 2147483648) (hl : -2147483648 ≤ l ∧ l < 2147483648) : OkI D m_mo_crewFor [vr D 219, vi x, vi l] (Zg g h) f (fun y f' => y = bs (crV A x l) ∧ (∀ v, crV A x l = some v → 0 ≤ v ∧ v < 600000000 ∧ f' 219 69 = cnt (bt x) ∧ cnt (bt x) ≤ 7 ∧ (∀ k : Int, 0 ≤ k → k < cnt (bt x) → f' 269 k = nth (bt x) k ∧ 0 ≤ nth (bt x) k ∧ nth (bt x) k < A 0 4 0) ∧ ∀ k : Int, 0 ≤ k → k < cnt (bt x) → f' 272 k = dg v k) ∧ ∀ j k, ¬ (267 ≤ j ∧ j ≤ 272) → ¬ (j = 219 ∧ k = 69) → f' j k = f j k) := by
  have hn := hF.nn
  have hno : ¬ crOk A x l = true → bs (crV A x l) = -1 ∧ ∀ v, ¬ crV A x l = some v := fun e => by
    unfold crV; rw [if_neg e]; exact ⟨rfl, fun v hv => by cases hv⟩
  have p24 : q_shl 1 (A 0 4 0) = 2 ^ (A 0 4 0).toNat := by
    have := q_shl1 (k := (A 0 4 0).toNat) (by omega)
    rwa [Int.toNat_of_nonneg (by omega)] at this
  have p24r : (0 : Int) < 2 ^ (A 0 4 0).toNat ∧ (2 : Int) ^ (A 0 4 0).toNat ≤ 16777216 := by
    have : ∀ k : Nat, k < 25 → (0 : Int) < 2 ^ k ∧ (2 : Int) ^ k ≤ 16777216 := by decide +kernel
    exact this _ (by omega)
  refine OkI_of (L0 := [vr D 219, vi x, vi l]) mi_mo_crewFor rfl rfl (Nat.le_of_ble_eq_true rfl) (fun C hR => ?_)
  have nope : ¬ crOk A x l = true → ((-1 : Int) = bs (crV A x l) ∧ (∀ v, crV A x l = some v → 0 ≤ v ∧ v < 600000000 ∧ f 219 69 = cnt (bt x) ∧ cnt (bt x) ≤ 7 ∧ (∀ k : Int, 0 ≤ k → k < cnt (bt x) → f 269 k = nth (bt x) k ∧ 0 ≤ nth (bt x) k ∧ nth (bt x) k < A 0 4 0) ∧ ∀ k : Int, 0 ≤ k → k < cnt (bt x) → f 272 k = dg v k) ∧ ∀ j k, ¬ (267 ≤ j ∧ j ≤ 272) → ¬ (j = 219 ∧ k = 69) → f j k = f j k) := fun e => ⟨(hno e).1.symm, fun v hv => absurd hv ((hno e).2 v), fun _ _ _ _ => rfl⟩
  by_cases hx0 : 0 ≤ x ∧ x < 2 ^ (A 0 4 0).toNat
  · have hcr := cnt_rg (bt x)
    have hnO : ((nOf (bt x) : Nat) : Int) = cnt (bt x) := by unfold nOf; omega
    have hbx : mB (bt x) = x := mB_bt2 hx0.1 hx.2
    have hin : ∀ t, bt x t = true → 0 ≤ t ∧ t < A 0 4 0 := fun t ht => by
      have t0 : 0 ≤ t := by unfold bt at ht; rw [Bool.and_eq_true, decide_eq_true_iff] at ht; exact ht.1
      rcases Int.lt_or_le t (A 0 4 0) with e | e
      · exact ⟨t0, e⟩
      · rw [bt_hi (k := (A 0 4 0).toNat) hx0.1 hx0.2 (by omega)] at ht; cases ht
    have okb := ok_bits (D := D) (f := f) (g := g) (h := h) (p := bt x)
    rw [hbx] at okb
    have oko := ok_opens1 (D := D) (g := g) (h := h) hS hF (p := bt x) (fun t _ _ ht => (hin t ht).2)
    rw [hbx] at oko
    have hand : q_and x (q_xor (mB (held A (-1))) (-1)) = mB (fun t => bt x t && !held A (-1) t) := by
      conv => lhs; rw [← hbx]
      rw [mB_andn]
    refine V_iload_2 d_mo_crewFor_0 ?_
    refine V_if_lt 43 d_mo_crewFor_1 (by decide) (by omega) (fun c1 => ?_) (fun c1 => ?_)
    · skip
      refine V_iconst (-1) d_mo_crewFor_43 ?_
      refine V_ireturn d_mo_crewFor_44 (hR _ _ ?_)
      exact nope (fun e => by unfold crOk at e; rw [decide_eq_false (p := 0 ≤ l ∧ 0 ≤ x) (by omega)] at e; simp at e)
    · skip
      refine V_iload_1 d_mo_crewFor_4 ?_
      refine V_i2l d_mo_crewFor_5 (by omega) ?_
      refine V_lconst0 d_mo_crewFor_6 ?_
      refine V_iconst 1 d_mo_crewFor_7 ?_
      refine V_aload_0 d_mo_crewFor_8 ?_
      refine V_cvI0 d_mo_crewFor_9 ml_mo_328 mv_mo_seenMany (by decide) (Nat.le_of_ble_eq_true rfl) is_mo (ok_seenMany hS.1) ?_
      rintro _ f2 ⟨rfl, e2⟩
      rw [e2]; clear e2 f2
      refine V_ishl d_mo_crewFor_12 ?_
      rw [p24]
      refine V_iconst 1 d_mo_crewFor_13 ?_
      refine V_isub d_mo_crewFor_14 ?_
      refine V_i2l d_mo_crewFor_15 (by omega) ?_
      refine V_csI3 d_mo_crewFor_16 ml_mo_225 ms_mo_isIn (by decide) (Nat.le_of_ble_eq_true rfl) (ok_isIn (by omega) (by omega) (by omega)) ?_
      rintro x16 f2 ⟨hx16, e2⟩
      rw [e2]; clear e2 f2
      refine V_if_eq 43 d_mo_crewFor_19 (by decide) (by rcases hx16 with h | h <;> omega) (fun c19 => ?_) (fun c19 => ?_)
      · skip
        rcases hx16 with h16 | h16
        · omega
        · omega
      · skip
        refine V_iload_1 d_mo_crewFor_22 ?_
        refine V_csI1 d_mo_crewFor_23 ml_mo_443 ms_mo_bits (by decide) (Nat.le_of_ble_eq_true rfl) (okb) ?_
        rintro _ f2 ⟨rfl, e2⟩
        rw [e2]; clear e2 f2
        refine V_bipush 7 d_mo_crewFor_26 (by decide) ?_
        refine V_icmp_gt 43 d_mo_crewFor_28 (by decide) (by omega) (by omega) (fun c28 => ?_) (fun c28 => ?_)
        · skip
          refine V_iconst (-1) d_mo_crewFor_43 ?_
          refine V_ireturn d_mo_crewFor_44 (hR _ _ ?_)
          exact nope (fun e => by unfold crOk at e; rw [decide_eq_false (p := cnt (bt x) ≤ 7) (by omega)] at e; simp at e)
        · skip
          refine V_iload_1 d_mo_crewFor_31 ?_
          refine V_aload_0 d_mo_crewFor_32 ?_
          refine V_iconst (-1) d_mo_crewFor_33 ?_
          refine V_cvI1 d_mo_crewFor_34 ml_mo_440 mv_mo_hiredBy (by decide) (Nat.le_of_ble_eq_true rfl) is_mo (ok_hiredBy hS.1 hS.2.1 hF.1 hF.2.1 (by omega)) ?_
          rintro _ f2 ⟨rfl, e2⟩
          rw [e2]; clear e2 f2
          refine V_iconst (-1) d_mo_crewFor_37 ?_
          refine V_ixor d_mo_crewFor_38 ?_
          refine V_iand d_mo_crewFor_39 ?_
          rw [hand]
          refine V_if_eq 45 d_mo_crewFor_40 (by decide) (mB_rg2 _) (fun c40 => ?_) (fun c40 => ?_)
          · skip
            have hyes : crOk A x l = true := by
              unfold crOk
              rw [decide_eq_true (show 0 ≤ l ∧ 0 ≤ x by omega), decide_eq_true c40, decide_eq_true (show cnt (bt x) ≤ 7 by omega)]; rfl
            have hun : ∀ t, bt x t = true → A 11 t 0 = -1 := fun t ht => by
              have b := hin t ht
              have := (mB_is0 _).mp c40 t b.1 (by omega)
              rw [ht] at this
              exact (held_at (A := A) (sh := -1) (by simpa using this)).2
            have hc : ∀ k : Int, 0 ≤ k → k < nOf (bt x) → 0 ≤ chs (bt x) k ∧ chs (bt x) k < A 0 4 0 ∧ (∀ b : Int, 0 ≤ b → held A b (chs (bt x) k) = false) ∧ ∀ j : Int, 0 ≤ j → j < k → ¬ chs (bt x) k = chs (bt x) j := fun k k0 k1 => by
              obtain ⟨e1, e2, e3⟩ := nth_at (p := bt x) (fun t _ _ ht => by have := (hin t ht).2; omega) k0 (by omega)
              refine ⟨e1, (hin _ e3).2, fun b b0 => ?_, fun j j0 j1 => nth_ne (fun t _ _ ht => by have := (hin t ht).2; omega) j0 j1 (by omega)⟩
              have := hun _ e3
              show held A b (nth (bt x) k) = false
              unfold held; rw [this, decide_eq_false (p := (-1 : Int) = b) (by omega), Bool.and_false]
            refine V_aload_0 d_mo_crewFor_45 ?_
            refine V_iload_1 d_mo_crewFor_46 ?_
            refine V_cvV1 d_mo_crewFor_47 ml_mo_501 mv_mo_opens1 (by decide) (Nat.le_of_ble_eq_true rfl) is_mo (oko) ?_
            rintro F ⟨⟨o1, o2, o3, o4⟩, hf⟩
            refine V_aload_0 d_mo_crewFor_50 ?_
            refine V_getI d_mo_crewFor_51 fl_mo_491 is_mo ?_
            rw [o1]
            refine V_if_ne 61 d_mo_crewFor_54 (by decide) (by omega) (fun c54 => ?_) (fun c54 => ?_)
            · skip
              refine V_aload_0 d_mo_crewFor_61 ?_
              refine V_iload_2 d_mo_crewFor_62 ?_
              refine V_cvI1 d_mo_crewFor_63 ml_mo_509 mv_mo_crewOf (by decide) (Nat.le_of_ble_eq_true rfl) is_mo (ok_crewOf (c := chs (bt x)) (n := nOf (bt x)) (hS.scr hF (fun j k a b => hf j k (by omega) (by omega) b)) hF (by omega) (by omega) hl hc (by rw [o1]; omega) ⟨fun k k0 k1 => by rw [o2 k k0 (by omega)]; rfl, fun b b0 b1 => by
                rw [o3 b b0 b1]
                refine mB_eq (fun t _ _ => ?_)
                unfold hsS anyI; rw [Bool.or_false], fun b b0 b1 => by rw [o4 b b0 b1]; exact mB_0.symm⟩) ?_
              rintro y F2 ⟨v, v1, v2, v3, v5, v4⟩
              refine V_ireturn d_mo_crewFor_66 (hR _ _ ?_)
              have ec : crV A x l = v := by unfold crV; rw [if_pos hyes, v1]; rfl
              rw [ec]
              refine ⟨v2, fun w hw => ?_, fun j k a b => by rw [v4 j k a]; exact hf j k (by omega) (by omega) b⟩
              obtain ⟨w1, w2, w3, w4⟩ := v3 w hw
              refine ⟨w1, w2, by rw [v4 _ _ (by decide)]; exact o1, by omega, fun k k0 k1 => ?_, fun k k0 k1 => w4 k k0 (by omega)⟩
              have := hc k k0 (by omega)
              exact ⟨v5 k k0 (by omega), this.1, this.2.1⟩
            · skip
              refine V_iconst 0 d_mo_crewFor_57 ?_
              refine V_goto 66 d_mo_crewFor_58 (by decide) ?_
              refine V_ireturn d_mo_crewFor_66 (hR _ _ ?_)
              have e0 : nOf (bt x) = 0 := by omega
              have ec : crV A x l = some 0 := by unfold crV; rw [if_pos hyes, e0]; unfold Tc; rw [SA]
              rw [ec]
              refine ⟨rfl, fun v hv => ?_, fun j k a b => hf j k (by omega) (by omega) b⟩
              cases hv
              exact ⟨by decide, by decide, o1, by omega, fun k k0 k1 => by omega, fun k k0 k1 => by omega⟩
          · skip
            refine V_iconst (-1) d_mo_crewFor_43 ?_
            refine V_ireturn d_mo_crewFor_44 (hR _ _ ?_)
            exact nope (fun e => by unfold crOk at e; rw [decide_eq_false c40] at e; simp at e)
  · skip
    refine V_iload_2 d_mo_crewFor_0 ?_
    refine V_if_lt 43 d_mo_crewFor_1 (by decide) (by omega) (fun c1 => ?_) (fun c1 => ?_)
    · skip
      refine V_iconst (-1) d_mo_crewFor_43 ?_
      refine V_ireturn d_mo_crewFor_44 (hR _ _ ?_)
      exact nope (fun e => by unfold crOk at e; rw [decide_eq_false (p := 0 ≤ l ∧ 0 ≤ x) (by omega)] at e; simp at e)
    · skip
      refine V_iload_1 d_mo_crewFor_4 ?_
      refine V_i2l d_mo_crewFor_5 (by omega) ?_
      refine V_lconst0 d_mo_crewFor_6 ?_
      refine V_iconst 1 d_mo_crewFor_7 ?_
      refine V_aload_0 d_mo_crewFor_8 ?_
      refine V_cvI0 d_mo_crewFor_9 ml_mo_328 mv_mo_seenMany (by decide) (Nat.le_of_ble_eq_true rfl) is_mo (ok_seenMany hS.1) ?_
      rintro _ f2 ⟨rfl, e2⟩
      rw [e2]; clear e2 f2
      refine V_ishl d_mo_crewFor_12 ?_
      rw [p24]
      refine V_iconst 1 d_mo_crewFor_13 ?_
      refine V_isub d_mo_crewFor_14 ?_
      refine V_i2l d_mo_crewFor_15 (by omega) ?_
      refine V_csI3 d_mo_crewFor_16 ml_mo_225 ms_mo_isIn (by decide) (Nat.le_of_ble_eq_true rfl) (ok_isIn (by omega) (by omega) (by omega)) ?_
      rintro x16 f2 ⟨hx16, e2⟩
      rw [e2]; clear e2 f2
      refine V_if_eq 43 d_mo_crewFor_19 (by decide) (by rcases hx16 with h | h <;> omega) (fun c19 => ?_) (fun c19 => ?_)
      · skip
        refine V_iconst (-1) d_mo_crewFor_43 ?_
        refine V_ireturn d_mo_crewFor_44 (hR _ _ ?_)
        refine nope (fun e => hx0 ?_)
        unfold crOk at e
        rw [Bool.and_eq_true, Bool.and_eq_true, decide_eq_true_iff, decide_eq_true_iff] at e
        obtain ⟨⟨-, x0⟩, e2, -⟩ := e
        refine ⟨x0, ?_⟩
        have : x.toNat < 2 ^ (A 0 4 0).toNat := Nat.lt_pow_two_of_testBit _ (fun i hi => by
          cases ht : x.toNat.testBit i
          · rfl
          · have hb : bt x i = true := by unfold bt; rw [decide_eq_true (by omega), Bool.true_and]; exact ht
            rcases Nat.lt_or_ge i 31 with e | e
            · have := (mB_is0 _).mp e2 i (by omega) (by omega)
              rw [hb] at this
              have := held_hi (A := A) (sh := -1) (t := i) (by simpa using this)
              omega
            · rw [bt_hi (k := 31) x0 hx.2 (by omega)] at hb; cases hb)
        have e3 : ((2 ^ (A 0 4 0).toNat : Nat) : Int) = 2 ^ (A 0 4 0).toNat := by push_cast; rfl
        omega
      · skip
        rcases hx16 with h16 | h16
        · omega
        · omega
theorem mo_crew (hS : Mst f A) (hF : Wf A) {x l k : Int} (hx : -2147483648 ≤ x ∧ x < 2147483648) (hl : -2147483648 ≤ l ∧ l < 2147483648) (hk : -2147483648 ≤ k ∧ k < 2147483648) : OkI D m_mo_crew [vr D 219, vi x, vi l, vi k] (Zg g h) f (fun y f' => y = S_crew A x l k ∧ ∀ j i, ¬ (267 ≤ j ∧ j ≤ 272) → ¬ (j = 219 ∧ i = 69) → f' j i = f j i) := by
  have hcr := cnt_rg (bt x)
  refine OkI_of (L0 := [vr D 219, vi x, vi l, vi k, vu]) mi_mo_crew rfl rfl (Nat.le_of_ble_eq_true rfl) (fun C hR => ?_)
  cases hv : crV A x l with
  | none =>
    refine V_aload_0 d_mo_crew_0 ?_
    refine V_iload_1 d_mo_crew_1 ?_
    refine V_iload_2 d_mo_crew_2 ?_
    refine V_cvI2 d_mo_crew_3 ml_mo_512 mv_mo_crewFor (by decide) (Nat.le_of_ble_eq_true rfl) is_mo (ok_crewFor hS hF hx hl) ?_
    rintro y F ⟨e, -, hf⟩
    rw [hv] at e
    have e : y = -1 := e
    subst e
    refine V_istore_4 d_mo_crew_6 rfl ?_
    refine V_iload_4 d_mo_crew_8 ?_
    refine V_iconst (-1) d_mo_crew_10 ?_
    refine V_icmp_eq 19 d_mo_crew_11 (by decide) (by omega) (by omega) (fun c11 => ?_) (fun c11 => by omega)
    refine V_iload_4 d_mo_crew_19 ?_
    refine V_ireturn d_mo_crew_21 (hR _ _ ?_)
    refine ⟨?_, hf⟩
    unfold S_crew; rw [hv]
  | some v =>
    refine V_aload_0 d_mo_crew_0 ?_
    refine V_iload_1 d_mo_crew_1 ?_
    refine V_iload_2 d_mo_crew_2 ?_
    refine V_cvI2 d_mo_crew_3 ml_mo_512 mv_mo_crewFor (by decide) (Nat.le_of_ble_eq_true rfl) is_mo (ok_crewFor hS hF hx hl) ?_
    rintro y F ⟨e, hw, hf⟩
    obtain ⟨w1, w2, w3, w4, w5, w6⟩ := hw v hv
    rw [hv] at e
    have e : y = v / 78125 := e
    subst e
    refine V_istore_4 d_mo_crew_6 rfl ?_
    refine V_iload_4 d_mo_crew_8 ?_
    refine V_iconst (-1) d_mo_crew_10 ?_
    refine V_icmp_eq 19 d_mo_crew_11 (by decide) (by omega) (by omega) (fun c11 => by omega) (fun c11 => ?_)
    refine V_iload_3 d_mo_crew_14 ?_
    refine V_iconst (-1) d_mo_crew_15 ?_
    refine V_icmp_ne 22 d_mo_crew_16 (by decide) (by omega) (by omega) (fun c16 => ?_) (fun c16 => ?_)
    · skip
      refine V_iload_3 d_mo_crew_22 ?_
      refine V_i2l d_mo_crew_23 (by omega) ?_
      refine V_lconst0 d_mo_crew_24 ?_
      refine V_aload_0 d_mo_crew_25 ?_
      refine V_getI d_mo_crew_26 fl_mo_491 is_mo ?_
      rw [w3]
      refine V_iconst 1 d_mo_crew_29 ?_
      refine V_isub d_mo_crew_30 ?_
      refine V_i2l d_mo_crew_31 (by omega) ?_
      refine V_csI3 d_mo_crew_32 ml_mo_225 ms_mo_isIn (by decide) (Nat.le_of_ble_eq_true rfl) (ok_isIn (by omega) (by omega) (by omega)) ?_
      rintro x32 f2 ⟨hx32, e2⟩
      rw [e2]; clear e2 f2
      refine V_if_eq 47 d_mo_crew_35 (by decide) (by rcases hx32 with h | h <;> omega) (fun c35 => ?_) (fun c35 => ?_)
      · skip
        rcases hx32 with h32 | h32
        · omega
        refine V_iconst (-1) d_mo_crew_47 ?_
        refine V_ireturn d_mo_crew_48 (hR _ _ ?_)
        refine ⟨?_, hf⟩
        unfold S_crew; rw [hv]; simp only
        rw [if_neg (by omega), if_neg (by omega)]
      · skip
        rcases hx32 with h32 | h32
        rotate_left
        · omega
        refine V_aload_0 d_mo_crew_38 ?_
        refine V_getR d_mo_crew_39 fl_mo_172 is_mo r_mo_bestBody ?_
        refine V_iload_3 d_mo_crew_42 ?_
        refine V_iald d_mo_crew_43 is_mo_bestBody (by omega) (by omega) ?_
        rw [w6 k (by omega) (by omega)]
        refine V_goto 48 d_mo_crew_44 (by decide) ?_
        refine V_ireturn d_mo_crew_48 (hR _ _ ?_)
        refine ⟨?_, hf⟩
        unfold S_crew; rw [hv]; simp only
        rw [if_neg (by omega), if_pos (by omega)]
    · skip
      refine V_iload_4 d_mo_crew_19 ?_
      refine V_ireturn d_mo_crew_21 (hR _ _ ?_)
      refine ⟨?_, hf⟩
      unfold S_crew; rw [hv]; simp only; rw [if_pos (by omega)]
end MO18
