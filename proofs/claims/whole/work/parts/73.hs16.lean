/-! the class: crew -/
def crOk (A : q_As) (x l : Int) : Bool := decide (0 ≤ l ∧ 0 ≤ x) && (decide (mB (fun t => bt x t && !held A (-1) t) = 0) && decide (cnt (bt x) ≤ 7))
/-- what a crew for a set costs: 78125 times its price, and which shades they are, as digits; none -/
def crV (A : q_As) (x l : Int) : Option Int := if crOk A x l then Tc A (chs (bt x)) l (nOf (bt x)) (A 0 2 0).toNat (bt (2 ^ nOf (bt x) - 1)) else none
def dg (v k : Int) : Int := v % 78125 / 5 ^ (6 - k).toNat % 5
def S_crew (A : q_As) (x l k : Int) : Int := match crV A x l with
  | none => -1
  | some v => if k = -1 then v / 78125 else if 0 ≤ k ∧ k < cnt (bt x) then dg v k else -1
section HS16
variable {D : q_D} {f f' : q_F} {A : q_As} {g h : Int}
theorem q_and_neg {x : Int} (h0 : -2147483648 ≤ x) (h1 : x < 0) (u : Int → Bool) : ¬ q_and x (q_xor (mB u) (-1)) = 0 := by
  unfold q_and
  rw [mB_not]
  intro e
  have e1 : ((Int32.ofInt x).toBitVec &&& (bv u ^^^ BitVec.allOnes 32)).toInt = 0 := e
  have m1 : (Int32.ofInt x).toBitVec.msb = true := by
    rw [BitVec.msb_eq_toInt]
    have : (Int32.ofInt x).toBitVec.toInt = x := Int32.toInt_ofInt_of_le (by omega) (by omega)
    rw [this]; simp; omega
  have m2 : ((Int32.ofInt x).toBitVec &&& (bv u ^^^ BitVec.allOnes 32)).msb = true := by
    rw [BitVec.msb_and, BitVec.msb_xor, m1, mB_msb]
    decide
  rw [BitVec.msb_eq_toInt, e1] at m2
  simp at m2
theorem ok_findCrew (hS : Cst g f A) (hF : Wf A) {x l : Int} (hx : -2147483648 ≤ x ∧ x < 2147483648) (hl : -2147483648 ≤ l ∧ l < 2147483648) : OkI D m_hs_findCrew [vr D 0, vi x, vi l] (Zg g h) f (fun y f' => ((y = 0 ∧ crV A x l = none) ∨ (y = 1 ∧ ∃ v, crV A x l = some v ∧ f' 45 3 = v / 78125 ∧ f' 45 1 = cnt (bt x) ∧ cnt (bt x) ≤ 7 ∧ (∀ k : Int, 0 ≤ k → k < cnt (bt x) → f' 46 k = nth (bt x) k ∧ 0 ≤ nth (bt x) k ∧ nth (bt x) k < A 0 4 0) ∧ ∀ k : Int, 0 ≤ k → k < 7 → f' 47 k = dg v k)) ∧ ∀ j i, ¬ (43 ≤ j ∧ j < 50) → f' j i = f j i) := by
  have hn := hF.nn
  have hg := hS.1
  refine OkB_of (L0 := [vr D 0, vi x, vi l]) mi_hs_findCrew rfl rfl (Nat.le_of_ble_eq_true rfl) (fun C hR => ?_)
  have no : ¬ crOk A x l = true → crV A x l = none := fun e => by unfold crV; rw [if_neg e]
  by_cases hx0 : 0 ≤ x
  · have hcr := cnt_rg (bt x)
    have hnO : ((nOf (bt x) : Nat) : Int) = cnt (bt x) := by unfold nOf; omega
    have hand : q_and x (q_xor (mB (held A (-1))) (-1)) = mB (fun t => bt x t && !held A (-1) t) := by
      conv => lhs; rw [← mB_bt2 hx0 hx.2]
      rw [mB_andn]
    refine V_iload_2 d_hs_findCrew_0 ?_
    refine V_if_lt 51 d_hs_findCrew_1 (by decide) (by omega) (fun c1 => ?_) (fun c1 => ?_)
    · skip
      refine V_iconst 0 d_hs_findCrew_51 ?_
      refine V_ireturn d_hs_findCrew_52 (hR _ _ (by decide) ?_)
      exact ⟨Or.inl ⟨rfl, no (fun e => by unfold crOk at e; simp at e; omega)⟩, fun _ _ _ => rfl⟩
    · skip
      refine V_iload_1 d_hs_findCrew_4 ?_
      refine V_aload_0 d_hs_findCrew_5 ?_
      refine V_cvI0 d_hs_findCrew_6 ml_hs_100 mv_hs_unhired (by decide) (Nat.le_of_ble_eq_true rfl) is_hs (ok_unhired hS hF) ?_
      rintro _ f2 ⟨rfl, e2⟩
      rw [e2]; clear e2 f2
      refine V_iconst (-1) d_hs_findCrew_9 ?_
      refine V_ixor d_hs_findCrew_10 ?_
      refine V_iand d_hs_findCrew_11 ?_
      rw [hand]
      refine V_if_ne 51 d_hs_findCrew_12 (by decide) (mB_rg2 _) (fun c12 => ?_) (fun c12 => ?_)
      · skip
        refine V_iconst 0 d_hs_findCrew_51 ?_
        refine V_ireturn d_hs_findCrew_52 (hR _ _ (by decide) ?_)
        exact ⟨Or.inl ⟨rfl, no (fun e => by unfold crOk at e; rw [decide_eq_false c12] at e; simp at e)⟩, fun _ _ _ => rfl⟩
      · skip
        have hin : ∀ t, bt x t = true → t < A 0 4 0 := fun t ht => by
          have t0 : 0 ≤ t := by unfold bt at ht; rw [Bool.and_eq_true, decide_eq_true_iff] at ht; exact ht.1
          rcases Int.lt_or_le t 31 with e | e
          · have := (mB_is0 _).mp c12 t t0 e
            rw [ht] at this
            exact held_hi (A := A) (sh := -1) (by simpa using this)
          · rw [bt_hi (k := 31) hx0 hx.2 e] at ht; cases ht
        have okc := ok_choose (D := D) (f := f) (g := g) (h := h) (p := bt x) (n := nOf (bt x)) hnO (fun t _ _ ht => by have := hin t ht; omega) (w := 7) (by decide)
        rw [mB_bt2 hx0 hx.2] at okc
        refine V_aload_0 d_hs_findCrew_15 ?_
        refine V_getR d_hs_findCrew_16 fl_hs_42 is_hs r_hs_crews ?_
        refine V_iload_1 d_hs_findCrew_19 ?_
        refine V_bipush 7 d_hs_findCrew_20 (by decide) ?_
        refine V_cvI2 d_hs_findCrew_22 ml_hs_193 mv_cr_choose (by decide) (Nat.le_of_ble_eq_true rfl) is_cr (okc) ?_
        rintro x22 F ⟨hx22, hf1, hf2⟩
        refine V_if_eq 51 d_hs_findCrew_25 (by decide) (by omega) (fun c25 => ?_) (fun c25 => ?_)
        · skip
          refine V_iconst 0 d_hs_findCrew_51 ?_
          refine V_ireturn d_hs_findCrew_52 (hR _ _ (by decide) ?_)
          refine ⟨Or.inl ⟨rfl, no (fun e => ?_)⟩, fun j i hj => hf1 j i (by omega) (by omega)⟩
          have := q_b0 hx22 (by omega)
          unfold crOk at e
          rw [decide_eq_false (p := cnt (bt x) ≤ 7) (by omega)] at e
          simp at e
        · skip
          have hle := q_b1 hx22 (by omega)
          obtain ⟨h1, h2⟩ := hf2 hle
          have hSF : Cst g F A := hS.scr hF (fun j k hj => hf1 j k (by omega) (by omega))
          have hch := cho_of hF hin hnO (by omega) h1 h2
          have hyes : crOk A x l = true := by
            unfold crOk
            rw [decide_eq_true (show 0 ≤ l ∧ 0 ≤ x by omega), decide_eq_true c12, decide_eq_true (show cnt (bt x) ≤ 7 by omega)]; rfl
          refine V_aload_0 d_hs_findCrew_28 ?_
          refine V_getR d_hs_findCrew_29 fl_hs_42 is_hs r_hs_crews ?_
          refine V_aload_0 d_hs_findCrew_32 ?_
          refine V_getR d_hs_findCrew_33 fl_hs_57 is_hs (r_hs_now hg) ?_
          refine V_aload_0 d_hs_findCrew_36 ?_
          refine V_getR d_hs_findCrew_37 fl_hs_28 is_hs r_hs_hires ?_
          refine V_iload_2 d_hs_findCrew_40 ?_
          refine V_cvI3 d_hs_findCrew_41 ml_hs_222 mv_cr_findCheapest (by decide) (Nat.le_of_ble_eq_true rfl) is_cr (ok_findCheapest hSF hF hch hl) ?_
          rintro y F2 ⟨hy, hf3⟩
          refine V_if_eq 51 d_hs_findCrew_44 (by decide) (by omega) (fun c44 => ?_) (fun c44 => ?_)
          · skip
            refine V_iconst 0 d_hs_findCrew_51 ?_
            refine V_ireturn d_hs_findCrew_52 (hR _ _ (by decide) ?_)
            refine ⟨Or.inl ⟨rfl, ?_⟩, fun j i hj => by rw [hf3 j i (by omega) (by omega)]; exact hf1 j i (by omega) (by omega)⟩
            unfold crV; rw [if_pos hyes]
            rcases hy with hy | hy
            · exact hy.2
            · omega
          · skip
            refine V_iconst 1 d_hs_findCrew_47 ?_
            refine V_goto 52 d_hs_findCrew_48 (by decide) ?_
            refine V_ireturn d_hs_findCrew_52 (hR _ _ (by decide) ?_)
            refine ⟨Or.inr ⟨rfl, ?_⟩, fun j i hj => by rw [hf3 j i (by omega) (by omega)]; exact hf1 j i (by omega) (by omega)⟩
            rcases hy with hy | ⟨-, v, hv1, hv2, hv3⟩
            · omega
            · refine ⟨v, by unfold crV; rw [if_pos hyes]; exact hv1, hv2, ?_, by omega, fun k k0 k1 => ?_, fun k k0 k1 => hv3 k k0 k1⟩
              · rw [hf3 _ _ (by decide) (by decide), h1]; omega
              · have := hch.2.2.2 k k0 (by omega)
                exact ⟨by rw [hf3 _ _ (by decide) (by omega)]; exact h2 k k0 (by omega), this.1, this.2⟩
  · have hneg := q_and_neg hx.1 (by omega) (held A (-1))
    refine V_iload_2 d_hs_findCrew_0 ?_
    refine V_if_lt 51 d_hs_findCrew_1 (by decide) (by omega) (fun c1 => ?_) (fun c1 => ?_)
    · skip
      refine V_iconst 0 d_hs_findCrew_51 ?_
      refine V_ireturn d_hs_findCrew_52 (hR _ _ (by decide) ?_)
      exact ⟨Or.inl ⟨rfl, no (fun e => by unfold crOk at e; simp at e; omega)⟩, fun _ _ _ => rfl⟩
    · skip
      refine V_iload_1 d_hs_findCrew_4 ?_
      refine V_aload_0 d_hs_findCrew_5 ?_
      refine V_cvI0 d_hs_findCrew_6 ml_hs_100 mv_hs_unhired (by decide) (Nat.le_of_ble_eq_true rfl) is_hs (ok_unhired hS hF) ?_
      rintro _ f2 ⟨rfl, e2⟩
      rw [e2]; clear e2 f2
      refine V_iconst (-1) d_hs_findCrew_9 ?_
      refine V_ixor d_hs_findCrew_10 ?_
      refine V_iand d_hs_findCrew_11 ?_
      refine V_if_ne 51 d_hs_findCrew_12 (by decide) (q_rg _) (fun c12 => ?_) (fun c12 => ?_)
      · skip
        refine V_iconst 0 d_hs_findCrew_51 ?_
        refine V_ireturn d_hs_findCrew_52 (hR _ _ (by decide) ?_)
        exact ⟨Or.inl ⟨rfl, no (fun e => by unfold crOk at e; simp at e; omega)⟩, fun _ _ _ => rfl⟩
      · skip
        exact absurd c12 hneg
theorem hs_crew (hS : Cst g f A) (hF : Wf A) {x l k : Int} (hx : -2147483648 ≤ x ∧ x < 2147483648) (hl : -2147483648 ≤ l ∧ l < 2147483648) (hk : -2147483648 ≤ k ∧ k < 2147483648) : OkI D m_hs_crew [vr D 0, vi x, vi l, vi k] (Zg g h) f (fun y f' => y = S_crew A x l k ∧ ∀ j i, ¬ (43 ≤ j ∧ j < 50) → f' j i = f j i) := by
  have hcr := cnt_rg (bt x)
  refine OkI_of (L0 := [vr D 0, vi x, vi l, vi k]) mi_hs_crew rfl rfl (Nat.le_of_ble_eq_true rfl) (fun C hR => ?_)
  refine V_aload_0 d_hs_crew_0 ?_
  refine V_iload_1 d_hs_crew_1 ?_
  refine V_iload_2 d_hs_crew_2 ?_
  refine V_cvI2 d_hs_crew_3 ml_hs_207 mv_hs_findCrew (by decide) (Nat.le_of_ble_eq_true rfl) is_hs (ok_findCrew hS hF hx hl) ?_
  rintro y F ⟨hy, hf⟩
  refine V_if_ne 11 d_hs_crew_6 (by decide) (by rcases hy with h | h <;> omega) (fun c6 => ?_) (fun c6 => ?_)
  · skip
    obtain ⟨v, v1, v2, v3, v4, v5, v6⟩ := (hy.resolve_left (fun e => c6 e.1)).2
    refine V_iload_3 d_hs_crew_11 ?_
    refine V_iconst (-1) d_hs_crew_12 ?_
    refine V_icmp_ne 24 d_hs_crew_13 (by decide) (by omega) (by omega) (fun c13 => ?_) (fun c13 => ?_)
    · skip
      refine V_iload_3 d_hs_crew_24 ?_
      refine V_if_lt 51 d_hs_crew_25 (by decide) (by omega) (fun c25 => ?_) (fun c25 => ?_)
      · skip
        refine V_iconst (-1) d_hs_crew_51 ?_
        refine V_ireturn d_hs_crew_52 (hR _ _ ?_)
        refine ⟨?_, hf⟩
        unfold S_crew; rw [v1]; simp only
        first | (rw [if_neg (by omega), if_neg (by omega)]; done) | (rw [if_neg (by omega), if_pos (by omega)]; done)
      · skip
        refine V_iload_3 d_hs_crew_28 ?_
        refine V_aload_0 d_hs_crew_29 ?_
        refine V_getR d_hs_crew_30 fl_hs_42 is_hs r_hs_crews ?_
        refine V_getI d_hs_crew_33 fl_hs_213 is_cr ?_
        rw [v3]
        refine V_icmp_ge 51 d_hs_crew_36 (by decide) (by omega) (by omega) (fun c36 => ?_) (fun c36 => ?_)
        · skip
          refine V_iconst (-1) d_hs_crew_51 ?_
          refine V_ireturn d_hs_crew_52 (hR _ _ ?_)
          refine ⟨?_, hf⟩
          unfold S_crew; rw [v1]; simp only
          first | (rw [if_neg (by omega), if_neg (by omega)]; done) | (rw [if_neg (by omega), if_pos (by omega)]; done)
        · skip
          refine V_aload_0 d_hs_crew_39 ?_
          refine V_getR d_hs_crew_40 fl_hs_42 is_hs r_hs_crews ?_
          refine V_getR d_hs_crew_43 fl_hs_216 is_cr r_cr_crewOf ?_
          refine V_iload_3 d_hs_crew_46 ?_
          refine V_iald d_hs_crew_47 is_cr_crewOf (by omega) (by omega) ?_
          rw [v6 k (by omega) (by omega)]
          refine V_goto 52 d_hs_crew_48 (by decide) ?_
          refine V_ireturn d_hs_crew_52 (hR _ _ ?_)
          refine ⟨?_, hf⟩
          unfold S_crew; rw [v1]; simp only
          first | (rw [if_neg (by omega), if_neg (by omega)]; done) | (rw [if_neg (by omega), if_pos (by omega)]; done)
    · skip
      refine V_aload_0 d_hs_crew_16 ?_
      refine V_getR d_hs_crew_17 fl_hs_42 is_hs r_hs_crews ?_
      refine V_getI d_hs_crew_20 fl_hs_210 is_cr ?_
      rw [v2]
      refine V_ireturn d_hs_crew_23 (hR _ _ ?_)
      exact ⟨by unfold S_crew; rw [v1]; simp only; rw [if_pos (by omega)], hf⟩
  · skip
    have hno : crV A x l = none := by
      rcases hy with h | h
      · exact h.2
      · exact absurd h.1 (by omega)
    refine V_iconst (-1) d_hs_crew_9 ?_
    refine V_ireturn d_hs_crew_10 (hR _ _ ?_)
    exact ⟨by unfold S_crew; rw [hno], hf⟩
end HS16
