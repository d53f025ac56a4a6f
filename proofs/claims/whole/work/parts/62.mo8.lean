/-! the reference: chain, shades, must -/
section MO8
variable {D : q_D} {f f' : q_F} {A : q_As} {g h : Int}
theorem Mst.scr (hS : Mst f A) (hF : Wf A) (hf : ∀ j k, ¬ (267 ≤ j ∧ j ≤ 272) → ¬ (j = 219 ∧ k = 69) → f' j k = f j k) : Mst f' A := by
  obtain ⟨hG, hH, hT⟩ := hS
  refine ⟨hG.mono (gEq.refl A) (fun j k hq => hf j k (by unfold q_mg at hq; omega) (by unfold q_mg at hq; omega)) hF.1, hH.mono rfl rfl rfl rfl (fun k => hf _ _ (by omega) (by omega)) (fun k => hf _ _ (by omega) (by omega)) (hf _ _ (by omega) (by omega)) (hf _ _ (by omega) (by omega)), ?_⟩
  obtain ⟨c1, c2, c3, c4, c5, c6, c7⟩ := hT
  exact ⟨by rw [hf _ _ (by omega) (by omega)]; exact c1, fun k a b => by rw [hf _ _ (by omega) (by omega)]; exact c2 k a b, by rw [hf _ _ (by omega) (by omega)]; exact c3, by rw [hf _ _ (by omega) (by omega)]; exact c4, by rw [hf _ _ (by omega) (by omega)]; exact c5, by rw [hf _ _ (by omega) (by omega)]; exact c6, fun k a b => by rw [hf _ _ (by omega) (by omega)]; exact c7 k a b⟩
theorem cnt_add {q : Int → Bool} {k : Int} (h0 : 0 ≤ k) (h1 : k < 31) (hk : q k = false) : cnt (fun t => q t || decide (t = k)) = cnt q + 1 := by
  have e : cnt (fun t => (q t || decide (t = k)) && !decide (t = k)) = cnt (fun t => q t || decide (t = k)) - 1 := cntN_rem (k := k) (by simp) 31 0 h0 (by omega)
  have e2 : cnt (fun t => (q t || decide (t = k)) && !decide (t = k)) = cnt q := cnt_eq (fun t _ _ => by
    by_cases e : t = k
    · rw [e, hk]; simp
    · rw [decide_eq_false e]; simp)
  omega
theorem cnt_step (p : Int → Bool) {t : Int} (h0 : 0 ≤ t) (h1 : t < 31) : cnt (fun j => decide (j < t + 1) && p j) = cnt (fun j => decide (j < t) && p j) + (if p t then 1 else 0) := by
  cases hp : p t
  · rw [if_neg (by decide), Int.add_zero]
    refine cnt_eq (fun j _ _ => ?_)
    by_cases e : j = t
    · rw [e, hp]; simp
    · rw [show decide (j < t + 1) = decide (j < t) by apply decide_eq_decide.mpr; omega]
  · rw [if_pos rfl, ← cnt_add h0 h1 (q := fun j => decide (j < t) && p j) (by simp)]
    refine cnt_eq (fun j _ _ => ?_)
    by_cases e : j = t
    · rw [e, hp]; simp; omega
    · rw [decide_eq_false e, Bool.or_false, show decide (j < t + 1) = decide (j < t) by apply decide_eq_decide.mpr; omega]
theorem cnt_pre (hW : Wg A) : ∀ (m : Nat), (m : Int) ≤ A 0 4 0 → cnt (pre A m) = m := by
  have hn := hW.1
  intro m
  induction m with
  | zero => intro _; exact cntN_zero 31 0 (fun j _ _ => rfl)
  | succ m ih =>
    intro hm
    have hb := hW.o1 (i := (m : Int)) (by omega) (by omega)
    have h1 := cnt_add (q := pre A m) hb.1 (by omega) (pre_last hW (by omega))
    have e : cnt (pre A (m + 1)) = cnt (fun t => pre A m t || decide (t = A 16 m 0)) := cnt_eq (fun t _ _ => by rw [pre, Bool.or_comm])
    have := ih (by omega)
    omega
/-- ahead by hour, then by number -/
def bfr (A : q_As) (s t : Int) : Bool := decide (A 7 t 2 < A 7 s 2) || (decide (A 7 t 2 = A 7 s 2) && decide (t < s))
theorem bfr_cnt (hW : Wg A) {k : Nat} (hk : (k : Int) < A 0 4 0) : cnt (fun t => decide (t < A 0 4 0) && bfr A (A 16 k 0) t) = k := by
  have hn := hW.1
  refine Eq.trans (cnt_eq (fun t t0 _ => ?_)) (cnt_pre hW k (by omega))
  by_cases t1 : t < A 0 4 0
  · rw [decide_eq_true t1, Bool.true_and]
    obtain ⟨i, i0, i1, i2⟩ := hW.o3 t0 t1
    obtain ⟨n, rfl⟩ := Int.eq_ofNat_of_zero_le i0
    rw [← i2]
    rcases Nat.lt_trichotomy n k with e | e | e
    · have o := hW.o2 (i := (n : Int)) (j := (k : Int)) (by omega) (by omega) hk
      rw [(pre_iff k _).mpr ⟨n, e, rfl⟩]
      unfold bfr
      rcases o with o | o
      · rw [decide_eq_true o]; rfl
      · rw [decide_eq_true o.1, decide_eq_true o.2]; simp
    · subst e
      rw [pre_last hW hk]; unfold bfr; simp
    · have o := hW.o2 (i := (k : Int)) (j := (n : Int)) (by omega) (by omega) i1
      have hno : pre A k (A 16 n 0) = false := by
        cases h : pre A k (A 16 n 0)
        · rfl
        · obtain ⟨i, h1, h2⟩ := (pre_iff k _).mp h
          have := ord_inj hW (by omega) i1 h2; omega
      rw [hno]
      unfold bfr
      rw [decide_eq_false (p := A 7 (A 16 n 0) 2 < A 7 (A 16 k 0) 2) (by omega)]
      rcases o with o | o
      · rw [decide_eq_false (p := A 7 (A 16 n 0) 2 = A 7 (A 16 k 0) 2) (by omega)]; rfl
      · rw [decide_eq_false (p := A 16 n 0 < A 16 k 0) (by omega)]; simp
  · rw [decide_eq_false t1, Bool.false_and]
    cases h : pre A k t
    · rfl
    · obtain ⟨i, h1, h2⟩ := (pre_iff k _).mp h
      have := hW.o1 (i := (i : Int)) (by omega) (by omega); omega
theorem ok_orders (hG : Mg f A) (hW : Wg A) : OkV D m_mo_orders [vr D 219] (Zg g h) f (fun f' => (∀ j k, ¬ j = 268 → f' j k = f j k) ∧ ∀ k : Nat, (k : Int) < A 0 4 0 → f' 268 k = A 16 k 0) := by
  have hn := hW.1
  refine OkV_of (L0 := [vr D 219, vu, vu, vu]) mi_mo_orders rfl rfl (Nat.le_of_ble_eq_true rfl) (fun C hR => ?_)
  have inner : ∀ (m : Nat) (t s a : Int) (F : q_F), Mg F A → (0 ≤ s ∧ s < A 0 4 0) → t + m = A 0 4 0 → 0 ≤ t → a = cnt (fun j => decide (j < t) && bfr A s j) → (∀ t, V D C m_mo_orders 62 [vr D 219, vi s, vi (cnt (fun j => decide (j < A 0 4 0) && bfr A s j)), vi t] [] (Zg g h) F) → V D C m_mo_orders 14 [vr D 219, vi s, vi a, vi t] [] (Zg g h) F := by
    intro m
    induction m with
    | zero =>
      intro t s a F hGF hs hm h0 ha K
      have et : t = A 0 4 0 := by omega
      refine V_iload_3 d_mo_orders_14 ?_
      refine V_aload_0 d_mo_orders_15 ?_
      refine V_cvI0 d_mo_orders_16 ml_mo_328 mv_mo_seenMany (by decide) (Nat.le_of_ble_eq_true rfl) is_mo (ok_seenMany hGF) ?_
      rintro _ f2 ⟨rfl, e2⟩
      rw [e2]; clear e2 f2
      refine V_icmp_ge 62 d_mo_orders_19 (by decide) (by omega) (by omega) (fun c19 => ?_) (fun c19 => by omega)
      rw [ha, et]; exact K _
    | succ m ih =>
      intro t s a F hGF hs hm h0 ha K
      have bs := (hGF.sg hW hs.1 hs.2).2.2.2.1
      have bt := (hGF.sg hW h0 (by omega)).2.2.2.1
      have st := cnt_step (bfr A s) (t := t) h0 (by omega)
      refine V_iload_3 d_mo_orders_14 ?_
      refine V_aload_0 d_mo_orders_15 ?_
      refine V_cvI0 d_mo_orders_16 ml_mo_328 mv_mo_seenMany (by decide) (Nat.le_of_ble_eq_true rfl) is_mo (ok_seenMany hGF) ?_
      rintro _ f2 ⟨rfl, e2⟩
      rw [e2]; clear e2 f2
      refine V_icmp_ge 62 d_mo_orders_19 (by decide) (by omega) (by omega) (fun c19 => by omega) (fun c19 => ?_)
      refine V_aload_0 d_mo_orders_22 ?_
      refine V_iload_3 d_mo_orders_23 ?_
      refine V_cvI1 d_mo_orders_24 ml_mo_334 mv_mo_hourOf (by decide) (Nat.le_of_ble_eq_true rfl) is_mo (ok_hourOf hGF hW h0 (by omega)) ?_
      rintro _ f2 ⟨rfl, e2⟩
      rw [e2]; clear e2 f2
      refine V_aload_0 d_mo_orders_27 ?_
      refine V_iload_1 d_mo_orders_28 ?_
      refine V_cvI1 d_mo_orders_29 ml_mo_334 mv_mo_hourOf (by decide) (Nat.le_of_ble_eq_true rfl) is_mo (ok_hourOf hGF hW hs.1 hs.2) ?_
      rintro _ f2 ⟨rfl, e2⟩
      rw [e2]; clear e2 f2
      refine V_icmp_lt 53 d_mo_orders_32 (by decide) (by omega) (by omega) (fun c32 => ?_) (fun c32 => ?_)
      · skip
        refine V_iinc_2 d_mo_orders_53 rfl ?_
        refine V_iinc_3 d_mo_orders_56 rfl ?_
        refine V_goto 14 d_mo_orders_59 (by decide) ?_
        refine ih _ _ _ F hGF hs (by omega) (by omega) ?_ K
        rw [st, ha, if_pos (by unfold bfr; rw [decide_eq_true c32]; rfl)]
      · skip
        refine V_aload_0 d_mo_orders_35 ?_
        refine V_iload_3 d_mo_orders_36 ?_
        refine V_cvI1 d_mo_orders_37 ml_mo_334 mv_mo_hourOf (by decide) (Nat.le_of_ble_eq_true rfl) is_mo (ok_hourOf hGF hW h0 (by omega)) ?_
        rintro _ f2 ⟨rfl, e2⟩
        rw [e2]; clear e2 f2
        refine V_aload_0 d_mo_orders_40 ?_
        refine V_iload_1 d_mo_orders_41 ?_
        refine V_cvI1 d_mo_orders_42 ml_mo_334 mv_mo_hourOf (by decide) (Nat.le_of_ble_eq_true rfl) is_mo (ok_hourOf hGF hW hs.1 hs.2) ?_
        rintro _ f2 ⟨rfl, e2⟩
        rw [e2]; clear e2 f2
        refine V_icmp_ne 56 d_mo_orders_45 (by decide) (by omega) (by omega) (fun c45 => ?_) (fun c45 => ?_)
        · skip
          refine V_iinc_3 d_mo_orders_56 rfl ?_
          refine V_goto 14 d_mo_orders_59 (by decide) ?_
          refine ih _ _ _ F hGF hs (by omega) (by omega) ?_ K
          rw [st, ha, if_neg (by unfold bfr; rw [decide_eq_false (p := A 7 t 2 < A 7 s 2) (by omega), decide_eq_false (p := A 7 t 2 = A 7 s 2) (by omega)]; simp), Int.add_zero]
        · skip
          refine V_iload_3 d_mo_orders_48 ?_
          refine V_iload_1 d_mo_orders_49 ?_
          refine V_icmp_ge 56 d_mo_orders_50 (by decide) (by omega) (by omega) (fun c50 => ?_) (fun c50 => ?_)
          · skip
            refine V_iinc_3 d_mo_orders_56 rfl ?_
            refine V_goto 14 d_mo_orders_59 (by decide) ?_
            refine ih _ _ _ F hGF hs (by omega) (by omega) ?_ K
            rw [st, ha, if_neg (by unfold bfr; rw [decide_eq_false (p := A 7 t 2 < A 7 s 2) (by omega), decide_eq_false (p := t < s) (by omega), Bool.and_false]; decide), Int.add_zero]
          · skip
            refine V_iinc_2 d_mo_orders_53 rfl ?_
            refine V_iinc_3 d_mo_orders_56 rfl ?_
            refine V_goto 14 d_mo_orders_59 (by decide) ?_
            refine ih _ _ _ F hGF hs (by omega) (by omega) ?_ K
            rw [st, ha, if_pos (by unfold bfr; rw [decide_eq_true (p := A 7 t 2 = A 7 s 2) (by omega), decide_eq_true (p := t < s) (by omega)]; simp)]
  have outer : ∀ (m : Nat) (s : Int) (a2 a3 : Value) (F : q_F), s + m = A 0 4 0 → 0 ≤ s → (∀ j k, ¬ j = 268 → F j k = f j k) → (∀ k : Nat, (k : Int) < A 0 4 0 → A 16 k 0 < s → F 268 k = A 16 k 0) → V D C m_mo_orders 2 [vr D 219, vi s, a2, a3] [] (Zg g h) F := by
    intro m
    induction m with
    | zero =>
      intro s a2 a3 F hm h0 hf hr
      have hGF : Mg F A := hG.mono (gEq.refl A) (fun j k hq => hf j k (by unfold q_mg at hq; omega)) hW
      refine V_iload_1 d_mo_orders_2 ?_
      refine V_aload_0 d_mo_orders_3 ?_
      refine V_cvI0 d_mo_orders_4 ml_mo_328 mv_mo_seenMany (by decide) (Nat.le_of_ble_eq_true rfl) is_mo (ok_seenMany hGF) ?_
      rintro _ f2 ⟨rfl, e2⟩
      rw [e2]; clear e2 f2
      refine V_icmp_ge 75 d_mo_orders_7 (by decide) (by omega) (by omega) (fun c7 => ?_) (fun c7 => by omega)
      refine V_return d_mo_orders_75 (hR _ ?_)
      exact ⟨hf, fun k hk => hr k hk (by have := hW.o1 (i := (k : Int)) (by omega) hk; omega)⟩
    | succ m ih =>
      intro s a2 a3 F hm h0 hf hr
      have hGF : Mg F A := hG.mono (gEq.refl A) (fun j k hq => hf j k (by unfold q_mg at hq; omega)) hW
      obtain ⟨i, i0, i1, i2⟩ := hW.o3 h0 (show s < A 0 4 0 by omega)
      obtain ⟨n, rfl⟩ := Int.eq_ofNat_of_zero_le i0
      have hc : cnt (fun j => decide (j < A 0 4 0) && bfr A s j) = n := by rw [← i2]; exact bfr_cnt hW i1
      have K : ∀ t, V D C m_mo_orders 62 [vr D 219, vi s, vi (cnt (fun j => decide (j < A 0 4 0) && bfr A s j)), vi t] [] (Zg g h) F := by
        intro t
        rw [hc]
        refine V_aload_0 d_mo_orders_62 ?_
        refine V_getR d_mo_orders_63 fl_mo_160 is_mo r_mo_inOrder ?_
        refine V_iload_2 d_mo_orders_66 ?_
        refine V_iload_1 d_mo_orders_67 ?_
        refine V_iast d_mo_orders_68 is_mo_inOrder (by omega) (by omega) ?_
        refine V_iinc_1 d_mo_orders_69 rfl ?_
        refine V_goto 2 d_mo_orders_72 (by decide) ?_
        refine ih _ _ _ _ (by omega) (by omega) (fun j k hj => by rw [q_up_at hj]; exact hf j k hj) (fun k hk hs => ?_)
        by_cases e : k = n
        · rw [e, q_up_eq, i2]
        · rw [q_up_ne (Or.inr (by omega))]
          refine hr k hk ?_
          have : ¬ A 16 k 0 = s := fun e2 => e (ord_inj hW hk i1 (by rw [i2]; exact e2))
          omega
      refine V_iload_1 d_mo_orders_2 ?_
      refine V_aload_0 d_mo_orders_3 ?_
      refine V_cvI0 d_mo_orders_4 ml_mo_328 mv_mo_seenMany (by decide) (Nat.le_of_ble_eq_true rfl) is_mo (ok_seenMany hGF) ?_
      rintro _ f2 ⟨rfl, e2⟩
      rw [e2]; clear e2 f2
      refine V_icmp_ge 75 d_mo_orders_7 (by decide) (by omega) (by omega) (fun c7 => by omega) (fun c7 => ?_)
      refine V_iconst 0 d_mo_orders_10 ?_
      refine V_istore_2 d_mo_orders_11 rfl ?_
      refine V_iconst 0 d_mo_orders_12 ?_
      refine V_istore_3 d_mo_orders_13 rfl ?_
      exact inner (A 0 4 0).toNat _ s _ F hGF ⟨h0, by omega⟩ (by omega) (by decide) (cntN_zero 31 0 (fun j a b => by rw [decide_eq_false (p := j < 0) (by omega)]; rfl)).symm K
  refine V_iconst 0 d_mo_orders_0 ?_
  refine V_istore_1 d_mo_orders_1 rfl ?_
  exact outer (A 0 4 0).toNat _ _ _ f (by omega) (by decide) (fun _ _ _ => rfl) (fun k hk hs => by have := hW.o1 (i := (k : Int)) (by omega) hk; omega)
theorem ok_longestOf (hG : Mg f A) (hW : Wg A) (ho : ∀ k : Nat, (k : Int) < A 0 4 0 → f 268 k = A 16 k 0) (p : Int → Bool) : OkI D m_mo_longestOf [vr D 219, vi (mB p)] (Zg g h) f (fun x f' => x = lng A p ∧ ∀ j k, ¬ j = 267 → f' j k = f j k) := by
  have hn := hW.1
  refine OkI_of (L0 := [vr D 219, vi (mB p), vu, vu, vu, vu]) mi_mo_longestOf rfl rfl (Nat.le_of_ble_eq_true rfl) (fun C hR => ?_)
  have inner : ∀ (m j k : Nat) (w s : Int) (F : q_F), j + m = k → (k : Int) < A 0 4 0 → s = A 16 k 0 → (∀ j i, ¬ j = 267 → F j i = f j i) → (∀ j : Nat, j < k → F 267 j = if p (A 16 j 0) then 1 + ahd A p j (can A (A 16 j 0)) else 0) → F 267 k = 1 + ahd A p j (can A s) → (∀ F', (∀ j i, ¬ j = 267 → F' j i = f j i) → (∀ j : Nat, j < k → F' 267 j = if p (A 16 j 0) then 1 + ahd A p j (can A (A 16 j 0)) else 0) → F' 267 k = 1 + ahd A p k (can A s) → V D C m_mo_longestOf 113 [vr D 219, vi (mB p), vi w, vi k, vi s, vi k] [] (Zg g h) F') → V D C m_mo_longestOf 49 [vr D 219, vi (mB p), vi w, vi k, vi s, vi j] [] (Zg g h) F := by
    intro m
    induction m with
    | zero =>
      intro j k w s F hj hk hs hf ht hc K
      have e : j = k := by omega
      subst e
      refine V_iload_5 d_mo_longestOf_49 ?_
      refine V_iload_3 d_mo_longestOf_51 ?_
      refine V_icmp_ge 113 d_mo_longestOf_52 (by decide) (by omega) (by omega) (fun c52 => ?_) (fun c52 => by omega)
      exact K F hf ht hc
    | succ m ih =>
      intro j k w s F hj hk hs hf ht hc K
      have bj := hW.o1 (i := (j : Int)) (by omega) (by omega)
      have bk := hW.o1 (i := (k : Int)) (by omega) hk
      have hGF : Mg F A := hG.mono (gEq.refl A) (fun j k hq => hf j k (by unfold q_mg at hq; omega)) hW
      have em := hGF.mt bk.1 bk.2
      rw [← hs] at em bk
      have eo : F 268 j = A 16 j 0 := by rw [hf _ _ (by decide)]; exact ho j (by omega)
      have ej := ht j (by omega)
      have r1 := ahd_rg (A := A) p j (can A s)
      have r2 := ahd_rg (A := A) p j (can A (A 16 j 0))
      have hej : F 267 j = 0 ∨ (p (A 16 j 0) = true ∧ F 267 j = 1 + ahd A p j (can A (A 16 j 0))) := by
        cases hp : p (A 16 j 0)
        · rw [hp, if_neg (by decide)] at ej; exact Or.inl ej
        · rw [hp, if_pos rfl] at ej; exact Or.inr ⟨rfl, ej⟩
      have hcan : (decide (A 16 j 0 < A 0 4 0) && can A s (A 16 j 0)) = can A s (A 16 j 0) := by rw [decide_eq_true bj.2]; rfl
      have nop : F 267 j < 1 + ahd A p j (can A s) ∨ can A s (A 16 j 0) = false → ahd A p (j + 1) (can A s) = ahd A p j (can A s) := by
        intro hh
        rw [ahd_succ]
        cases hp : p (A 16 j 0) && can A s (A 16 j 0)
        · rfl
        · rw [Bool.and_eq_true] at hp
          rw [if_pos rfl]
          rcases hh with hh | hh
          · rw [hp.1, if_pos rfl] at ej; omega
          · rw [hh] at hp; cases hp.2
      refine V_iload_5 d_mo_longestOf_49 ?_
      refine V_iload_3 d_mo_longestOf_51 ?_
      refine V_icmp_ge 113 d_mo_longestOf_52 (by decide) (by omega) (by omega) (fun c52 => by omega) (fun c52 => ?_)
      refine V_aload_0 d_mo_longestOf_55 ?_
      refine V_getR d_mo_longestOf_56 fl_mo_157 is_mo r_mo_longestTo ?_
      refine V_iload_5 d_mo_longestOf_59 ?_
      refine V_iald d_mo_longestOf_61 is_mo_longestTo (by omega) (by omega) ?_
      refine V_aload_0 d_mo_longestOf_62 ?_
      refine V_getR d_mo_longestOf_63 fl_mo_157 is_mo r_mo_longestTo ?_
      refine V_iload_3 d_mo_longestOf_66 ?_
      refine V_iald d_mo_longestOf_67 is_mo_longestTo (by omega) (by omega) ?_
      rw [hc]
      refine V_icmp_lt 107 d_mo_longestOf_68 (by decide) (by omega) (by omega) (fun c68 => ?_) (fun c68 => ?_)
      · skip
        refine V_iinc_5 d_mo_longestOf_107 rfl ?_
        refine V_goto 49 d_mo_longestOf_110 (by decide) ?_
        exact ih (j + 1) k w s F (by omega) hk hs hf ht (by rw [nop (Or.inl c68)]; exact hc) K
      · skip
        refine V_aload_0 d_mo_longestOf_71 ?_
        refine V_getR d_mo_longestOf_72 fl_mo_151 is_mo r_mo_with ?_
        refine V_iload_4 d_mo_longestOf_75 ?_
        refine V_iald d_mo_longestOf_77 is_mo_with (by omega) (by omega) ?_
        rw [em]
        refine V_aload_0 d_mo_longestOf_78 ?_
        refine V_getR d_mo_longestOf_79 fl_mo_160 is_mo r_mo_inOrder ?_
        refine V_iload_5 d_mo_longestOf_82 ?_
        refine V_iald d_mo_longestOf_84 is_mo_inOrder (by omega) (by omega) ?_
        rw [eo]
        refine V_ishr d_mo_longestOf_85 ?_
        refine V_iconst 1 d_mo_longestOf_86 ?_
        refine V_iand d_mo_longestOf_87 ?_
        refine V_iconst 1 d_mo_longestOf_88 ?_
        refine V_icmp_ne 107 d_mo_longestOf_89 (by decide) (mB_shrrg _ _) (by decide) (fun c89 => ?_) (fun c89 => ?_)
        · skip
          rw [mB_ib0 _ (by omega), hcan] at c89
          refine V_iinc_5 d_mo_longestOf_107 rfl ?_
          refine V_goto 49 d_mo_longestOf_110 (by decide) ?_
          exact ih (j + 1) k w s F (by omega) hk hs hf ht (by rw [nop (Or.inr c89)]; exact hc) K
        · skip
          rw [mB_ib _ (by omega), hcan] at c89
          refine V_aload_0 d_mo_longestOf_92 ?_
          refine V_getR d_mo_longestOf_93 fl_mo_157 is_mo r_mo_longestTo ?_
          refine V_iload_3 d_mo_longestOf_96 ?_
          refine V_aload_0 d_mo_longestOf_97 ?_
          refine V_getR d_mo_longestOf_98 fl_mo_157 is_mo r_mo_longestTo ?_
          refine V_iload_5 d_mo_longestOf_101 ?_
          refine V_iald d_mo_longestOf_103 is_mo_longestTo (by omega) (by omega) ?_
          refine V_iconst 1 d_mo_longestOf_104 ?_
          refine V_iadd d_mo_longestOf_105 ?_
          refine V_iast d_mo_longestOf_106 is_mo_longestTo (by omega) (by omega) ?_
          refine V_iinc_5 d_mo_longestOf_107 rfl ?_
          refine V_goto 49 d_mo_longestOf_110 (by decide) ?_
          obtain ⟨hpj, ee⟩ : p (A 16 j 0) = true ∧ F 267 j = 1 + ahd A p j (can A (A 16 j 0)) := hej.resolve_left (by omega)
          refine ih (j + 1) k w s _ (by omega) hk hs (fun a b hab => by rw [q_up_at hab]; exact hf a b hab) (fun i hi => by rw [q_up_ne (Or.inr (by omega))]; exact ht i hi) ?_ K
          rw [q_up_eq, ahd_succ, hpj, c89, Bool.and_self, if_pos rfl]
          omega
  have outer : ∀ (m k : Nat) (a4 a5 : Value) (F : q_F), ((k + m : Nat) : Int) = A 0 4 0 → a4.category = 1 → (∀ j i, ¬ j = 267 → F j i = f j i) → (∀ j : Nat, j < k → F 267 j = if p (A 16 j 0) then 1 + ahd A p j (can A (A 16 j 0)) else 0) → V D C m_mo_longestOf 4 [vr D 219, vi (mB p), vi (ahd A p k (fun _ => true)), vi k, a4, a5] [] (Zg g h) F := by
    intro m
    induction m with
    | zero =>
      intro k a4 a5 F hk h4 hf ht
      have hGF : Mg F A := hG.mono (gEq.refl A) (fun j k hq => hf j k (by unfold q_mg at hq; omega)) hW
      refine V_iload_3 d_mo_longestOf_4 ?_
      refine V_aload_0 d_mo_longestOf_5 ?_
      refine V_cvI0 d_mo_longestOf_6 ml_mo_328 mv_mo_seenMany (by decide) (Nat.le_of_ble_eq_true rfl) is_mo (ok_seenMany hGF) ?_
      rintro _ f2 ⟨rfl, e2⟩
      rw [e2]; clear e2 f2
      refine V_icmp_ge 140 d_mo_longestOf_9 (by decide) (by omega) (by omega) (fun c9 => ?_) (fun c9 => by omega)
      refine V_iload_2 d_mo_longestOf_140 ?_
      refine V_ireturn d_mo_longestOf_141 (hR _ _ ?_)
      refine ⟨?_, hf⟩
      unfold lng; rw [show (A 0 4 0).toNat = k by omega]
    | succ m ih =>
      intro k a4 a5 F hk h4 hf ht
      have hGF : Mg F A := hG.mono (gEq.refl A) (fun j k hq => hf j k (by unfold q_mg at hq; omega)) hW
      have eo : F 268 k = A 16 k 0 := by rw [hf _ _ (by decide)]; exact ho k (by omega)
      have bk := hW.o1 (i := (k : Int)) (by omega) (by omega)
      have r1 := ahd_rg (A := A) p k (fun _ => true)
      have r2 := ahd_rg (A := A) p k (can A (A 16 k 0))
      have K : p (A 16 k 0) = true → ∀ F', (∀ j i, ¬ j = 267 → F' j i = f j i) → (∀ j : Nat, j < k → F' 267 j = if p (A 16 j 0) then 1 + ahd A p j (can A (A 16 j 0)) else 0) → F' 267 k = 1 + ahd A p k (can A (A 16 k 0)) → V D C m_mo_longestOf 113 [vr D 219, vi (mB p), vi (ahd A p k (fun _ => true)), vi k, vi (A 16 k 0), vi k] [] (Zg g h) F' := by
        intro hp F' hf' ht' hc'
        have e : ahd A p (k + 1) (fun _ => true) = max (ahd A p k (fun _ => true)) (1 + ahd A p k (can A (A 16 k 0))) := by rw [ahd_succ, hp]; rfl
        have fin : ∀ x, x = ahd A p (k + 1) (fun _ => true) → V D C m_mo_longestOf 4 [vr D 219, vi (mB p), vi x, vi ((k : Int) + 1), vi (A 16 k 0), vi k] [] (Zg g h) F' := by
          intro x hx
          rw [hx]
          refine ih (k + 1) _ _ F' (by omega) rfl hf' (fun j hj => ?_)
          by_cases e2 : j = k
          · rw [e2, hp, if_pos rfl]; exact hc'
          · exact ht' j (by omega)
        refine V_aload_0 d_mo_longestOf_113 ?_
        refine V_getR d_mo_longestOf_114 fl_mo_157 is_mo r_mo_longestTo ?_
        refine V_iload_3 d_mo_longestOf_117 ?_
        refine V_iald d_mo_longestOf_118 is_mo_longestTo (by omega) (by omega) ?_
        rw [hc']
        refine V_iload_2 d_mo_longestOf_119 ?_
        refine V_icmp_le 132 d_mo_longestOf_120 (by decide) (by omega) (by omega) (fun c120 => ?_) (fun c120 => ?_)
        · skip
          refine V_iload_2 d_mo_longestOf_132 ?_
          refine V_istore_2 d_mo_longestOf_133 rfl ?_
          refine V_iinc_3 d_mo_longestOf_134 rfl ?_
          refine V_goto 4 d_mo_longestOf_137 (by decide) ?_
          exact fin _ (by omega)
        · skip
          refine V_aload_0 d_mo_longestOf_123 ?_
          refine V_getR d_mo_longestOf_124 fl_mo_157 is_mo r_mo_longestTo ?_
          refine V_iload_3 d_mo_longestOf_127 ?_
          refine V_iald d_mo_longestOf_128 is_mo_longestTo (by omega) (by omega) ?_
          rw [hc']
          refine V_goto 133 d_mo_longestOf_129 (by decide) ?_
          refine V_istore_2 d_mo_longestOf_133 rfl ?_
          refine V_iinc_3 d_mo_longestOf_134 rfl ?_
          refine V_goto 4 d_mo_longestOf_137 (by decide) ?_
          exact fin _ (by omega)
      refine V_iload_3 d_mo_longestOf_4 ?_
      refine V_aload_0 d_mo_longestOf_5 ?_
      refine V_cvI0 d_mo_longestOf_6 ml_mo_328 mv_mo_seenMany (by decide) (Nat.le_of_ble_eq_true rfl) is_mo (ok_seenMany hGF) ?_
      rintro _ f2 ⟨rfl, e2⟩
      rw [e2]; clear e2 f2
      refine V_icmp_ge 140 d_mo_longestOf_9 (by decide) (by omega) (by omega) (fun c9 => by omega) (fun c9 => ?_)
      refine V_aload_0 d_mo_longestOf_12 ?_
      refine V_getR d_mo_longestOf_13 fl_mo_160 is_mo r_mo_inOrder ?_
      refine V_iload_3 d_mo_longestOf_16 ?_
      refine V_iald d_mo_longestOf_17 is_mo_inOrder (by omega) (by omega) ?_
      rw [eo]
      refine V_istore_4 d_mo_longestOf_18 rfl ?_
      refine V_aload_0 d_mo_longestOf_20 ?_
      refine V_getR d_mo_longestOf_21 fl_mo_157 is_mo r_mo_longestTo ?_
      refine V_iload_3 d_mo_longestOf_24 ?_
      refine V_iconst 0 d_mo_longestOf_25 ?_
      refine V_iast d_mo_longestOf_26 is_mo_longestTo (by omega) (by omega) ?_
      refine V_iload_1 d_mo_longestOf_27 ?_
      refine V_iload_4 d_mo_longestOf_28 ?_
      refine V_ishr d_mo_longestOf_30 ?_
      refine V_iconst 1 d_mo_longestOf_31 ?_
      refine V_iand d_mo_longestOf_32 ?_
      refine V_if_ne 39 d_mo_longestOf_33 (by decide) (mB_shrrg _ _) (fun c33 => ?_) (fun c33 => ?_)
      · skip
        rw [mB_bf _ (by omega)] at c33
        refine V_aload_0 d_mo_longestOf_39 ?_
        refine V_getR d_mo_longestOf_40 fl_mo_157 is_mo r_mo_longestTo ?_
        refine V_iload_3 d_mo_longestOf_43 ?_
        refine V_iconst 1 d_mo_longestOf_44 ?_
        refine V_iast d_mo_longestOf_45 is_mo_longestTo (by omega) (by omega) ?_
        refine V_iconst 0 d_mo_longestOf_46 ?_
        refine V_istore_5 d_mo_longestOf_47 rfl ?_
        refine inner k 0 k _ _ _ (by omega) (by omega) rfl (fun j i hj => by rw [q_up_at hj, q_up_at hj]; exact hf j i hj) (fun j hj => by rw [q_up_ne (Or.inr (by omega)), q_up_ne (Or.inr (by omega))]; exact ht j hj) ?_ (K c33)
        rw [q_up_eq]; rfl
      · skip
        rw [mB_bt _ (by omega)] at c33
        have e : ahd A p (k + 1) (fun _ => true) = ahd A p k (fun _ => true) := by rw [ahd_succ, c33]; rfl
        refine V_goto 134 d_mo_longestOf_36 (by decide) ?_
        refine V_iinc_3 d_mo_longestOf_134 rfl ?_
        refine V_goto 4 d_mo_longestOf_137 (by decide) ?_
        rw [← e]
        refine ih (k + 1) _ _ _ (by omega) rfl (fun j i hj => by rw [q_up_at hj]; exact hf j i hj) (fun j hj => ?_)
        by_cases e2 : j = k
        · rw [e2, q_up_eq, c33]; rfl
        · rw [q_up_ne (Or.inr (by omega))]; exact ht j (by omega)
  refine V_iconst 0 d_mo_longestOf_0 ?_
  refine V_istore_2 d_mo_longestOf_1 rfl ?_
  refine V_iconst 0 d_mo_longestOf_2 ?_
  refine V_istore_3 d_mo_longestOf_3 rfl ?_
  exact outer (A 0 4 0).toNat 0 _ _ f (by omega) rfl (fun _ _ _ => rfl) (fun j hj => by omega)
theorem ok_bitAt {q : Int → Bool} {k : Int} (hk : -2147483648 ≤ k ∧ k < 2147483648) : OkI D m_mo_bitAt [vi (mB q), vi k] (Zg g h) f (fun x f' => x = nth q k ∧ f' = f) := by
  refine OkI_of (L0 := [vi (mB q), vi k, vu, vu]) mi_mo_bitAt rfl rfl (Nat.le_of_ble_eq_true rfl) (fun C hR => ?_)
  have loop : ∀ (m : Nat) (s n : Int), s + m = 24 → 0 ≤ s → (0 ≤ n ∧ n ≤ s) → nthN m s (k - n) q = nth q k → V D C m_mo_bitAt 4 [vi (mB q), vi k, vi n, vi s] [] (Zg g h) f := by
    intro m
    induction m with
    | zero =>
      intro s n hm h0 hn hr
      refine V_iload_3 d_mo_bitAt_4 ?_
      refine V_bipush 24 d_mo_bitAt_5 (by decide) ?_
      refine V_icmp_ge 37 d_mo_bitAt_7 (by decide) (by omega) (by omega) (fun c7 => ?_) (fun c7 => by omega)
      refine V_iconst (-1) d_mo_bitAt_37 ?_
      refine V_ireturn d_mo_bitAt_38 (hR _ _ ?_)
      exact ⟨hr, rfl⟩
    | succ m ih =>
      intro s n hm h0 hn hr
      rw [nthN] at hr
      refine V_iload_3 d_mo_bitAt_4 ?_
      refine V_bipush 24 d_mo_bitAt_5 (by decide) ?_
      refine V_icmp_ge 37 d_mo_bitAt_7 (by decide) (by omega) (by omega) (fun c7 => by omega) (fun c7 => ?_)
      refine V_iload_0 d_mo_bitAt_10 ?_
      refine V_iload_3 d_mo_bitAt_11 ?_
      refine V_ishr d_mo_bitAt_12 ?_
      refine V_iconst 1 d_mo_bitAt_13 ?_
      refine V_iand d_mo_bitAt_14 ?_
      refine V_if_ne 21 d_mo_bitAt_15 (by decide) (mB_shrrg _ _) (fun c15 => ?_) (fun c15 => ?_)
      · skip
        rw [mB_bf _ (by omega)] at c15
        rw [c15, if_pos rfl] at hr
        refine V_iload_2 d_mo_bitAt_21 ?_
        refine V_iload_1 d_mo_bitAt_22 ?_
        refine V_icmp_ne 28 d_mo_bitAt_23 (by decide) (by omega) (by omega) (fun c23 => ?_) (fun c23 => ?_)
        · skip
          rw [if_neg (by omega), show k - n - 1 = k - (n + 1) by omega] at hr
          refine V_iinc_2 d_mo_bitAt_28 rfl ?_
          refine V_iinc_3 d_mo_bitAt_31 rfl ?_
          refine V_goto 4 d_mo_bitAt_34 (by decide) ?_
          exact ih _ _ (by omega) (by omega) (by omega) hr
        · skip
          rw [if_pos (by omega)] at hr
          refine V_iload_3 d_mo_bitAt_26 ?_
          refine V_ireturn d_mo_bitAt_27 (hR _ _ ?_)
          exact ⟨hr, rfl⟩
      · skip
        rw [mB_bt _ (by omega)] at c15
        rw [c15, if_neg (by decide)] at hr
        refine V_goto 31 d_mo_bitAt_18 (by decide) ?_
        refine V_iinc_3 d_mo_bitAt_31 rfl ?_
        refine V_goto 4 d_mo_bitAt_34 (by decide) ?_
        exact ih _ _ (by omega) (by omega) (by omega) hr
  refine V_iconst 0 d_mo_bitAt_0 ?_
  refine V_istore_2 d_mo_bitAt_1 rfl ?_
  refine V_iconst 0 d_mo_bitAt_2 ?_
  refine V_istore_3 d_mo_bitAt_3 rfl ?_
  exact loop 24 _ _ (by decide) (by decide) (by decide) (by rw [Int.sub_zero]; rfl)
def q_scr (f f' : q_F) : Prop := ∀ j k, ¬ (j = 267 ∨ j = 268) → f' j k = f j k
theorem q_scr.mg (h : q_scr f f') (hW : Wg A) (hG : Mg f A) : Mg f' A := hG.mono (gEq.refl A) (fun j k hq => h j k (by unfold q_mg at hq; omega)) hW
theorem q_scr.mh (h : q_scr f f') (hH : Mh f A) : Mh f' A := hH.mono rfl rfl rfl rfl (fun k => h _ _ (by omega)) (fun k => h _ _ (by omega)) (h _ _ (by omega)) (h _ _ (by omega))
theorem ok_chainOf (hG : Mg f A) (hW : Wg A) (p : Int → Bool) (hp : ∀ t, p t = true → t < A 0 4 0) : OkI D m_mo_chainOf [vr D 219, vi (mB p)] (Zg g h) f (fun x f' => x = mB (flg A p) ∧ q_scr f f') := by
  have hn := hW.1
  have rl := lng_rg hW p
  refine OkI_of (L0 := [vr D 219, vi (mB p), vu, vu, vu, vu]) mi_mo_chainOf rfl rfl (Nat.le_of_ble_eq_true rfl) (fun C hR => ?_)
  have loop : ∀ (m : Nat) (i : Int) (q : Int → Bool) (F : q_F), i + m = A 0 4 0 → 0 ≤ i → (∀ t, q t = true → t < A 0 4 0) → (∀ s t, 0 ≤ s → s < i → 0 ≤ t → q s = true → q t = true → can A s t = true) → flN A (lng A p) m i q = flg A p → q_scr f F → (∀ k : Nat, (k : Int) < A 0 4 0 → F 268 k = A 16 k 0) → V D C m_mo_chainOf 18 [vr D 219, vi (mB p), vi (lng A p), vi (mB q), vi (mB (fun j => decide (j < i) && q j)), vi i] [] (Zg g h) F := by
    intro m
    induction m with
    | zero =>
      intro i q F hm h0 hq hc hr hf ho
      have hGF := hf.mg hW hG
      unfold flN at hr
      refine V_iload_5 d_mo_chainOf_18 ?_
      refine V_aload_0 d_mo_chainOf_20 ?_
      refine V_cvI0 d_mo_chainOf_21 ml_mo_328 mv_mo_seenMany (by decide) (Nat.le_of_ble_eq_true rfl) is_mo (ok_seenMany hGF) ?_
      rintro _ f2 ⟨rfl, e2⟩
      rw [e2]; clear e2 f2
      refine V_icmp_ge 93 d_mo_chainOf_24 (by decide) (by omega) (by omega) (fun c24 => ?_) (fun c24 => by omega)
      refine V_iload_4 d_mo_chainOf_93 ?_
      refine V_ireturn d_mo_chainOf_95 (hR _ _ ?_)
      refine ⟨?_, hf⟩
      rw [← hr]
      refine mB_eq (fun j _ _ => ?_)
      cases h : q j
      · simp
      · rw [decide_eq_true (by have := hq j h; omega)]; rfl
    | succ m ih =>
      intro i q F hm h0 hq hc hr hf ho
      have hGF := hf.mg hW hG
      have em := hGF.mt h0 (by omega)
      have r2 := lng_rg hW (fun t => q t && can A i t)
      unfold flN at hr
      refine V_iload_5 d_mo_chainOf_18 ?_
      refine V_aload_0 d_mo_chainOf_20 ?_
      refine V_cvI0 d_mo_chainOf_21 ml_mo_328 mv_mo_seenMany (by decide) (Nat.le_of_ble_eq_true rfl) is_mo (ok_seenMany hGF) ?_
      rintro _ f2 ⟨rfl, e2⟩
      rw [e2]; clear e2 f2
      refine V_icmp_ge 93 d_mo_chainOf_24 (by decide) (by omega) (by omega) (fun c24 => by omega) (fun c24 => ?_)
      refine V_iload_3 d_mo_chainOf_27 ?_
      refine V_iload_5 d_mo_chainOf_28 ?_
      refine V_ishr d_mo_chainOf_30 ?_
      refine V_iconst 1 d_mo_chainOf_31 ?_
      refine V_iand d_mo_chainOf_32 ?_
      refine V_if_ne 39 d_mo_chainOf_33 (by decide) (mB_shrrg _ _) (fun c33 => ?_) (fun c33 => ?_)
      · skip
        rw [mB_bf _ (by omega)] at c33
        rw [c33, if_pos rfl] at hr
        refine V_aload_0 d_mo_chainOf_39 ?_
        refine V_iload_3 d_mo_chainOf_40 ?_
        refine V_aload_0 d_mo_chainOf_41 ?_
        refine V_getR d_mo_chainOf_42 fl_mo_151 is_mo r_mo_with ?_
        refine V_iload_5 d_mo_chainOf_45 ?_
        refine V_iald d_mo_chainOf_47 is_mo_with (by omega) (by omega) ?_
        rw [em]
        refine V_iand d_mo_chainOf_48 ?_
        rw [mB_and, andc hq]
        refine V_cvI1 d_mo_chainOf_49 ml_mo_474 mv_mo_longestOf (by decide) (Nat.le_of_ble_eq_true rfl) is_mo (ok_longestOf hGF hW ho _) ?_
        rintro _ F' ⟨rfl, hf'⟩
        have hf2 : q_scr f F' := fun j k hj => by rw [hf' j k (by omega)]; exact hf j k hj
        have ho2 : ∀ k : Nat, (k : Int) < A 0 4 0 → F' 268 k = A 16 k 0 := fun k hk => by rw [hf' _ _ (by decide)]; exact ho k hk
        have em' := (hf2.mg hW hG).mt h0 (show i < A 0 4 0 by omega)
        refine V_iload_2 d_mo_chainOf_52 ?_
        refine V_icmp_ne 78 d_mo_chainOf_53 (by decide) (by omega) (by omega) (fun c53 => ?_) (fun c53 => ?_)
        · skip
          rw [if_neg c53] at hr
          refine V_iload_3 d_mo_chainOf_78 ?_
          refine V_iconst 1 d_mo_chainOf_79 ?_
          refine V_iload_5 d_mo_chainOf_80 ?_
          refine V_ishl d_mo_chainOf_82 ?_
          refine V_iconst (-1) d_mo_chainOf_83 ?_
          refine V_ixor d_mo_chainOf_84 ?_
          refine V_iand d_mo_chainOf_85 ?_
          rw [mB_one (by omega), mB_andn]
          refine V_istore_3 d_mo_chainOf_86 rfl ?_
          refine V_iinc_5 d_mo_chainOf_87 rfl ?_
          refine V_goto 18 d_mo_chainOf_90 (by decide) ?_
          have e : mB (fun j => decide (j < i) && q j) = mB (fun j => decide (j < i + 1) && less q i j) := mB_eq (fun j _ _ => by
            unfold less
            by_cases ej : j = i
            · rw [ej]; simp
            · rw [decide_eq_false ej, show decide (j < i + 1) = decide (j < i) by apply decide_eq_decide.mpr; omega]; simp)
          rw [e]
          refine ih _ (less q i) _ (by omega) (by omega) (fun t ht => hq t (by unfold less at ht; rw [Bool.and_eq_true] at ht; exact ht.1)) (fun s t s0 s1 t0 hs ht => ?_) hr hf2 ho2
          unfold less at hs ht
          rw [Bool.and_eq_true] at hs ht
          by_cases es : s = i
          · rw [es] at hs; simp at hs
          · exact hc s t s0 (by omega) t0 hs.1 ht.1
        · skip
          rw [if_pos (by omega)] at hr
          refine V_iload_3 d_mo_chainOf_56 ?_
          refine V_aload_0 d_mo_chainOf_57 ?_
          refine V_getR d_mo_chainOf_58 fl_mo_151 is_mo r_mo_with ?_
          refine V_iload_5 d_mo_chainOf_61 ?_
          refine V_iald d_mo_chainOf_63 is_mo_with (by omega) (by omega) ?_
          rw [em']
          refine V_iand d_mo_chainOf_64 ?_
          rw [mB_and, andc hq]
          refine V_istore_3 d_mo_chainOf_65 rfl ?_
          refine V_iload_4 d_mo_chainOf_66 ?_
          refine V_iconst 1 d_mo_chainOf_68 ?_
          refine V_iload_5 d_mo_chainOf_69 ?_
          refine V_ishl d_mo_chainOf_71 ?_
          refine V_ior d_mo_chainOf_72 ?_
          refine V_istore_4 d_mo_chainOf_73 rfl ?_
          refine V_goto 87 d_mo_chainOf_75 (by decide) ?_
          refine V_iinc_5 d_mo_chainOf_87 rfl ?_
          refine V_goto 18 d_mo_chainOf_90 (by decide) ?_
          have e : q_or (mB (fun j => decide (j < i) && q j)) (q_shl 1 i) = mB (fun j => decide (j < i + 1) && (q j && can A i j)) := by
            rw [mB_one (by omega), mB_or]
            refine mB_eq (fun j j0 j1 => ?_)
            by_cases ej : j = i
            · rw [ej, c33, can_refl hW ⟨h0, by omega⟩]; simp; omega
            · rw [decide_eq_false ej, Bool.or_false, show decide (j < i + 1) = decide (j < i) by apply decide_eq_decide.mpr; omega]
              by_cases ej2 : j < i
              · cases hj : q j
                · simp
                · rw [can_symm hW ⟨h0, by omega⟩ ⟨j0, by omega⟩, hc j i j0 ej2 h0 hj c33]; simp
              · rw [decide_eq_false ej2]; rfl
          rw [e]
          refine ih _ _ _ (by omega) (by omega) (fun t ht => hq t (by rw [Bool.and_eq_true] at ht; exact ht.1)) (fun s t s0 s1 t0 hs ht => ?_) hr hf2 ho2
          rw [Bool.and_eq_true] at hs ht
          by_cases es : s = i
          · rw [es]; exact ht.2
          · exact hc s t s0 (by omega) t0 hs.1 ht.1
      · skip
        rw [mB_bt _ (by omega)] at c33
        rw [c33, if_neg (by decide)] at hr
        refine V_goto 87 d_mo_chainOf_36 (by decide) ?_
        refine V_iinc_5 d_mo_chainOf_87 rfl ?_
        refine V_goto 18 d_mo_chainOf_90 (by decide) ?_
        have e : mB (fun j => decide (j < i) && q j) = mB (fun j => decide (j < i + 1) && q j) := by rw [mB_step _ (by omega), c33]; rfl
        rw [e]
        refine ih _ _ _ (by omega) (by omega) hq (fun s t s0 s1 t0 hs ht => ?_) hr hf ho
        by_cases es : s = i
        · rw [es, c33] at hs; cases hs
        · exact hc s t s0 (by omega) t0 hs ht
  refine V_aload_0 d_mo_chainOf_0 ?_
  refine V_cvV0 d_mo_chainOf_1 ml_mo_471 mv_mo_orders (by decide) (Nat.le_of_ble_eq_true rfl) is_mo (ok_orders hG hW) ?_
  rintro F1 ⟨hf1, ho1⟩
  have hs1 : q_scr f F1 := fun j k hj => hf1 j k (by omega)
  refine V_aload_0 d_mo_chainOf_4 ?_
  refine V_iload_1 d_mo_chainOf_5 ?_
  refine V_cvI1 d_mo_chainOf_6 ml_mo_474 mv_mo_longestOf (by decide) (Nat.le_of_ble_eq_true rfl) is_mo (ok_longestOf (hs1.mg hW hG) hW ho1 p) ?_
  rintro _ F2 ⟨rfl, hf2⟩
  have hs2 : q_scr f F2 := fun j k hj => by rw [hf2 j k (by omega)]; exact hs1 j k hj
  refine V_istore_2 d_mo_chainOf_9 rfl ?_
  refine V_iload_1 d_mo_chainOf_10 ?_
  refine V_istore_3 d_mo_chainOf_11 rfl ?_
  refine V_iconst 0 d_mo_chainOf_12 ?_
  refine V_istore_4 d_mo_chainOf_13 rfl ?_
  refine V_iconst 0 d_mo_chainOf_15 ?_
  refine V_istore_5 d_mo_chainOf_16 rfl ?_
  have := loop (A 0 4 0).toNat 0 p F2 (by omega) (by decide) hp (fun s t s0 s1 => by omega) rfl hs2 (fun k hk => by rw [hf2 _ _ (by decide)]; exact ho1 k hk)
  rw [mB_lt0] at this
  exact this
theorem mo_chain (hS : Mst f A) (hF : Wf A) {p k : Int} (hp : -2147483648 ≤ p ∧ p < 2147483648) (hk : -2147483648 ≤ k ∧ k < 2147483648) : OkI D m_mo_chain [vr D 219, vi p, vi k] (Zg g h) f (fun x f' => x = S_chain A p k ∧ q_scr f f') := by
  have hn := hF.nn
  obtain ⟨hG, hH, hT⟩ := hS
  refine OkI_of (L0 := [vr D 219, vi p, vi k, vu]) mi_mo_chain rfl rfl (Nat.le_of_ble_eq_true rfl) (fun C hR => ?_)
  refine V_aload_0 d_mo_chain_0 ?_
  refine V_iload_1 d_mo_chain_1 ?_
  refine V_cvI1 d_mo_chain_2 ml_mo_450 mv_mo_isPerson (by decide) (Nat.le_of_ble_eq_true rfl) is_mo (ok_isPerson hG hF.1 hp) ?_
  rintro x2 f2 ⟨hx2, e2⟩
  rw [e2]; clear e2 f2
  refine V_if_ne 10 d_mo_chain_5 (by decide) (by omega) (fun c5 => ?_) (fun c5 => ?_)
  · skip
    refine V_aload_0 d_mo_chain_10 ?_
    refine V_aload_0 d_mo_chain_11 ?_
    refine V_iload_1 d_mo_chain_12 ?_
    refine V_cvI1 d_mo_chain_13 ml_mo_462 mv_mo_ownOf (by decide) (Nat.le_of_ble_eq_true rfl) is_mo (ok_ownOf hG hH hF.1 hF.2.1 hp) ?_
    rintro _ f2 ⟨rfl, e2⟩
    rw [e2]; clear e2 f2
    refine V_cvI1 d_mo_chain_16 ml_mo_477 mv_mo_chainOf (by decide) (Nat.le_of_ble_eq_true rfl) is_mo (ok_chainOf hG hF.1 _ (fun t ht => own_hi ht)) ?_
    rintro _ F ⟨rfl, hf⟩
    refine V_istore_3 d_mo_chain_19 rfl ?_
    refine V_iload_2 d_mo_chain_20 ?_
    refine V_iconst (-1) d_mo_chain_21 ?_
    refine V_icmp_ne 32 d_mo_chain_22 (by decide) (by omega) (by omega) (fun c22 => ?_) (fun c22 => ?_)
    · skip
      refine V_iload_3 d_mo_chain_32 ?_
      refine V_iload_2 d_mo_chain_33 ?_
      refine V_csI2 d_mo_chain_34 ml_mo_480 ms_mo_bitAt (by decide) (Nat.le_of_ble_eq_true rfl) (ok_bitAt hk) ?_
      rintro _ f2 ⟨rfl, e2⟩
      rw [e2]; clear e2 f2
      refine V_ireturn d_mo_chain_37 (hR _ _ ?_)
      refine ⟨?_, hf⟩
      unfold S_chain; rw [if_pos (by omega), if_neg (by omega)]
    · skip
      refine V_iload_3 d_mo_chain_25 ?_
      refine V_csI1 d_mo_chain_26 ml_mo_443 ms_mo_bits (by decide) (Nat.le_of_ble_eq_true rfl) (ok_bits) ?_
      rintro _ f2 ⟨rfl, e2⟩
      rw [e2]; clear e2 f2
      refine V_goto 37 d_mo_chain_29 (by decide) ?_
      refine V_ireturn d_mo_chain_37 (hR _ _ ?_)
      refine ⟨?_, hf⟩
      unfold S_chain; rw [if_pos (by omega), if_pos (by omega)]
      exact flg_cnt hF.1 (fun t ht => own_hi ht)
  · skip
    refine V_iconst (-1) d_mo_chain_8 ?_
    refine V_ireturn d_mo_chain_9 (hR _ _ ?_)
    refine ⟨?_, fun _ _ _ => rfl⟩
    unfold S_chain; rw [if_neg (by omega)]
theorem ok_fewestOf (hG : Mg f A) (hH : Mh f A) (hF : Wf A) {p : Int} (hp : -2147483648 ≤ p ∧ p < 2147483648) : OkI D m_mo_fewestOf [vr D 219, vi p] (Zg g h) f (fun x f' => x = few A p ∧ q_scr f f') := by
  refine OkI_of (L0 := [vr D 219, vi p]) mi_mo_fewestOf rfl rfl (Nat.le_of_ble_eq_true rfl) (fun C hR => ?_)
  refine V_aload_0 d_mo_fewestOf_0 ?_
  refine V_cvV0 d_mo_fewestOf_1 ml_mo_471 mv_mo_orders (by decide) (Nat.le_of_ble_eq_true rfl) is_mo (ok_orders hG hF.1) ?_
  rintro F1 ⟨hf1, ho1⟩
  have hs1 : q_scr f F1 := fun j k hj => hf1 j k (by omega)
  refine V_aload_0 d_mo_fewestOf_4 ?_
  refine V_iload_1 d_mo_fewestOf_5 ?_
  refine V_cvI1 d_mo_fewestOf_6 ml_mo_462 mv_mo_ownOf (by decide) (Nat.le_of_ble_eq_true rfl) is_mo (ok_ownOf (hs1.mg hF.1 hG) (hs1.mh hH) hF.1 hF.2.1 hp) ?_
  rintro _ f2 ⟨rfl, e2⟩
  rw [e2]; clear e2 f2
  refine V_csI1 d_mo_fewestOf_9 ml_mo_443 ms_mo_bits (by decide) (Nat.le_of_ble_eq_true rfl) (ok_bits) ?_
  rintro _ f2 ⟨rfl, e2⟩
  rw [e2]; clear e2 f2
  refine V_aload_0 d_mo_fewestOf_12 ?_
  refine V_aload_0 d_mo_fewestOf_13 ?_
  refine V_iload_1 d_mo_fewestOf_14 ?_
  refine V_cvI1 d_mo_fewestOf_15 ml_mo_462 mv_mo_ownOf (by decide) (Nat.le_of_ble_eq_true rfl) is_mo (ok_ownOf (hs1.mg hF.1 hG) (hs1.mh hH) hF.1 hF.2.1 hp) ?_
  rintro _ f2 ⟨rfl, e2⟩
  rw [e2]; clear e2 f2
  refine V_cvI1 d_mo_fewestOf_18 ml_mo_474 mv_mo_longestOf (by decide) (Nat.le_of_ble_eq_true rfl) is_mo (ok_longestOf (hs1.mg hF.1 hG) hF.1 ho1 _) ?_
  rintro _ F2 ⟨rfl, hf2⟩
  refine V_isub d_mo_fewestOf_21 ?_
  refine V_ireturn d_mo_fewestOf_22 (hR _ _ ?_)
  exact ⟨rfl, fun j k hj => by rw [hf2 j k (by omega)]; exact hs1 j k hj⟩
theorem mo_shades (hS : Mst f A) (hF : Wf A) {p : Int} (hp : -2147483648 ≤ p ∧ p < 2147483648) : OkI D m_mo_shades [vr D 219, vi p] (Zg g h) f (fun x f' => x = S_shades A p ∧ q_scr f f') := by
  have hn := hF.nn
  obtain ⟨hG, hH, hT⟩ := hS
  refine OkI_of (L0 := [vr D 219, vi p, vu, vu]) mi_mo_shades rfl rfl (Nat.le_of_ble_eq_true rfl) (fun C hR => ?_)
  have loop1 : ∀ (m : Nat) (i a T : Int) (F : q_F), p = -1 → i + m = A 0 1 0 → 0 ≤ i → fwN A m i a = T → T = S_shades A p → q_scr f F → V D C m_mo_shades 19 [vr D 219, vi p, vi a, vi i] [] (Zg g h) F := by
    intro m
    induction m with
    | zero =>
      intro i a T F hv hm h0 hr hT hf
      unfold fwN at hr
      refine V_iload_3 d_mo_shades_19 ?_
      refine V_aload_0 d_mo_shades_20 ?_
      refine V_cvI0 d_mo_shades_21 ml_mo_422 mv_mo_persons (by decide) (Nat.le_of_ble_eq_true rfl) is_mo (ok_persons (hf.mg hF.1 hG)) ?_
      rintro _ f2 ⟨rfl, e2⟩
      rw [e2]; clear e2 f2
      refine V_icmp_ge 51 d_mo_shades_24 (by decide) (by omega) (by omega) (fun c24 => ?_) (fun c24 => by omega)
      refine V_iload_2 d_mo_shades_51 ?_
      refine V_ireturn d_mo_shades_52 (hR _ _ ?_)
      exact ⟨by rw [← hT]; exact hr, hf⟩
    | succ m ih =>
      intro i a T F hv hm h0 hr hT hf
      unfold fwN at hr
      refine V_iload_3 d_mo_shades_19 ?_
      refine V_aload_0 d_mo_shades_20 ?_
      refine V_cvI0 d_mo_shades_21 ml_mo_422 mv_mo_persons (by decide) (Nat.le_of_ble_eq_true rfl) is_mo (ok_persons (hf.mg hF.1 hG)) ?_
      rintro _ f2 ⟨rfl, e2⟩
      rw [e2]; clear e2 f2
      refine V_icmp_ge 51 d_mo_shades_24 (by decide) (by omega) (by omega) (fun c24 => by omega) (fun c24 => ?_)
      refine V_iload_1 d_mo_shades_27 ?_
      refine V_iconst (-1) d_mo_shades_28 ?_
      refine V_icmp_eq 37 d_mo_shades_29 (by decide) (by omega) (by omega) (fun c29 => ?_) (fun c29 => by omega)
      refine V_iload_2 d_mo_shades_37 ?_
      refine V_aload_0 d_mo_shades_38 ?_
      refine V_iload_3 d_mo_shades_39 ?_
      refine V_cvI1 d_mo_shades_40 ml_mo_483 mv_mo_fewestOf (by decide) (Nat.le_of_ble_eq_true rfl) is_mo (ok_fewestOf (hf.mg hF.1 hG) (hf.mh hH) hF (by omega)) ?_
      rintro _ F' ⟨rfl, hf'⟩
      refine V_iadd d_mo_shades_43 ?_
      refine V_istore_2 d_mo_shades_44 rfl ?_
      refine V_iinc_3 d_mo_shades_45 rfl ?_
      refine V_goto 19 d_mo_shades_48 (by decide) ?_
      exact ih _ _ _ _ hv (by omega) (by omega) hr hT (fun j k hj => by rw [hf' j k hj]; exact hf j k hj)
  have loop2 : ∀ (m : Nat) (i : Int) (F : q_F), (0 ≤ p ∧ p < A 0 1 0) → i + m = A 0 1 0 → 0 ≤ i → q_scr f F → V D C m_mo_shades 19 [vr D 219, vi p, vi (if p < i then few A p else 0), vi i] [] (Zg g h) F := by
    intro m
    induction m with
    | zero =>
      intro i F hv hm h0 hf
      refine V_iload_3 d_mo_shades_19 ?_
      refine V_aload_0 d_mo_shades_20 ?_
      refine V_cvI0 d_mo_shades_21 ml_mo_422 mv_mo_persons (by decide) (Nat.le_of_ble_eq_true rfl) is_mo (ok_persons (hf.mg hF.1 hG)) ?_
      rintro _ f2 ⟨rfl, e2⟩
      rw [e2]; clear e2 f2
      refine V_icmp_ge 51 d_mo_shades_24 (by decide) (by omega) (by omega) (fun c24 => ?_) (fun c24 => by omega)
      refine V_iload_2 d_mo_shades_51 ?_
      refine V_ireturn d_mo_shades_52 (hR _ _ ?_)
      refine ⟨?_, hf⟩
      unfold S_shades; rw [if_pos (by omega), if_neg (by omega), if_pos (by omega)]
    | succ m ih =>
      intro i F hv hm h0 hf
      refine V_iload_3 d_mo_shades_19 ?_
      refine V_aload_0 d_mo_shades_20 ?_
      refine V_cvI0 d_mo_shades_21 ml_mo_422 mv_mo_persons (by decide) (Nat.le_of_ble_eq_true rfl) is_mo (ok_persons (hf.mg hF.1 hG)) ?_
      rintro _ f2 ⟨rfl, e2⟩
      rw [e2]; clear e2 f2
      refine V_icmp_ge 51 d_mo_shades_24 (by decide) (by omega) (by omega) (fun c24 => by omega) (fun c24 => ?_)
      refine V_iload_1 d_mo_shades_27 ?_
      refine V_iconst (-1) d_mo_shades_28 ?_
      refine V_icmp_eq 37 d_mo_shades_29 (by decide) (by omega) (by omega) (fun c29 => by omega) (fun c29 => ?_)
      refine V_iload_1 d_mo_shades_32 ?_
      refine V_iload_3 d_mo_shades_33 ?_
      refine V_icmp_ne 45 d_mo_shades_34 (by decide) (by omega) (by omega) (fun c34 => ?_) (fun c34 => ?_)
      · skip
        refine V_iinc_3 d_mo_shades_45 rfl ?_
        refine V_goto 19 d_mo_shades_48 (by decide) ?_
        rw [show (if p < i then few A p else 0) = (if p < i + 1 then few A p else 0) by by_cases e : p < i <;> simp [e] <;> omega]
        exact ih _ _ hv (by omega) (by omega) hf
      · skip
        refine V_iload_2 d_mo_shades_37 ?_
        refine V_aload_0 d_mo_shades_38 ?_
        refine V_iload_3 d_mo_shades_39 ?_
        refine V_cvI1 d_mo_shades_40 ml_mo_483 mv_mo_fewestOf (by decide) (Nat.le_of_ble_eq_true rfl) is_mo (ok_fewestOf (hf.mg hF.1 hG) (hf.mh hH) hF (by omega)) ?_
        rintro _ F' ⟨rfl, hf'⟩
        refine V_iadd d_mo_shades_43 ?_
        refine V_istore_2 d_mo_shades_44 rfl ?_
        refine V_iinc_3 d_mo_shades_45 rfl ?_
        refine V_goto 19 d_mo_shades_48 (by decide) ?_
        have e : p = i := by omega
        rw [show (if p < i then few A p else 0) + few A i = (if p < i + 1 then few A p else 0) by rw [if_neg (by omega), if_pos (by omega), e, Int.zero_add]]
        exact ih _ _ hv (by omega) (by omega) (fun j k hj => by rw [hf' j k hj]; exact hf j k hj)
  refine V_iload_1 d_mo_shades_0 ?_
  refine V_iconst (-1) d_mo_shades_1 ?_
  refine V_icmp_eq 15 d_mo_shades_2 (by decide) (by omega) (by omega) (fun c2 => ?_) (fun c2 => ?_)
  · skip
    refine V_iconst 0 d_mo_shades_15 ?_
    refine V_istore_2 d_mo_shades_16 rfl ?_
    refine V_iconst 0 d_mo_shades_17 ?_
    refine V_istore_3 d_mo_shades_18 rfl ?_
    refine loop1 (A 0 1 0).toNat _ _ _ f (by omega) (by omega) (by decide) rfl ?_ (fun _ _ _ => rfl)
    unfold S_shades; rw [if_pos (by omega)]
  · skip
    refine V_aload_0 d_mo_shades_5 ?_
    refine V_iload_1 d_mo_shades_6 ?_
    refine V_cvI1 d_mo_shades_7 ml_mo_450 mv_mo_isPerson (by decide) (Nat.le_of_ble_eq_true rfl) is_mo (ok_isPerson hG hF.1 hp) ?_
    rintro x7 f2 ⟨hx7, e2⟩
    rw [e2]; clear e2 f2
    refine V_if_ne 15 d_mo_shades_10 (by decide) (by omega) (fun c10 => ?_) (fun c10 => ?_)
    · skip
      refine V_iconst 0 d_mo_shades_15 ?_
      refine V_istore_2 d_mo_shades_16 rfl ?_
      refine V_iconst 0 d_mo_shades_17 ?_
      refine V_istore_3 d_mo_shades_18 rfl ?_
      have := loop2 (A 0 1 0).toNat 0 f (by omega) (by omega) (by decide) (fun _ _ _ => rfl)
      rw [if_neg (by omega)] at this
      exact this
    · skip
      refine V_iconst (-1) d_mo_shades_13 ?_
      refine V_ireturn d_mo_shades_14 (hR _ _ ?_)
      refine ⟨?_, fun _ _ _ => rfl⟩
      unfold S_shades; rw [if_neg (by omega), if_neg (by omega)]
theorem mo_must (hS : Mst f A) (hF : Wf A) {s : Int} (hs : -2147483648 ≤ s ∧ s < 2147483648) : OkI D m_mo_must [vr D 219, vi s] (Zg g h) f (fun x f' => x = S_must A s ∧ q_scr f f') := by
  have hn := hF.nn
  obtain ⟨hG, hH, hT⟩ := hS
  have r1 := lng_rg hF.1 (own A (A 7 s 0))
  have r2 := lng_rg hF.1 (fun t => own A (A 7 s 0) t && can A s t)
  have r3 := lng_rg hF.1 (less (own A (A 7 s 0)) s)
  refine OkI_of (L0 := [vr D 219, vi s, vu, vu]) mi_mo_must rfl rfl (Nat.le_of_ble_eq_true rfl) (fun C hR => ?_)
  refine V_aload_0 d_mo_must_0 ?_
  refine V_iload_1 d_mo_must_1 ?_
  refine V_cvI1 d_mo_must_2 ml_mo_456 mv_mo_isSeen (by decide) (Nat.le_of_ble_eq_true rfl) is_mo (ok_isSeen hG hF.1 hs) ?_
  rintro x2 f2 ⟨hx2, e2⟩
  rw [e2]; clear e2 f2
  refine V_if_eq 18 d_mo_must_5 (by decide) (by omega) (fun c5 => ?_) (fun c5 => ?_)
  · skip
    refine V_iconst (-1) d_mo_must_18 ?_
    refine V_ireturn d_mo_must_19 (hR _ _ ?_)
    refine ⟨?_, fun _ _ _ => rfl⟩
    unfold S_must; rw [if_neg (by omega)]
  · skip
    have e11 := hH.at hF.2.1 (s := s) (by omega) (by omega)
    have b0 := (hG.sg hF.1 (s := s) (by omega) (by omega)).2.1
    refine V_aload_0 d_mo_must_8 ?_
    refine V_getR d_mo_must_9 fl_mo_148 is_mo r_mo_hired ?_
    refine V_iload_1 d_mo_must_12 ?_
    refine V_iald d_mo_must_13 is_mo_hired (by omega) (by omega) ?_
    rw [e11.1]
    refine V_iconst (-1) d_mo_must_14 ?_
    refine V_icmp_eq 20 d_mo_must_15 (by decide) (by omega) (by omega) (fun c15 => ?_) (fun c15 => ?_)
    · skip
      refine V_aload_0 d_mo_must_20 ?_
      refine V_cvV0 d_mo_must_21 ml_mo_471 mv_mo_orders (by decide) (Nat.le_of_ble_eq_true rfl) is_mo (ok_orders hG hF.1) ?_
      rintro F1 ⟨hf1, ho1⟩
      have hs1 : q_scr f F1 := fun j k hj => hf1 j k (by omega)
      refine V_aload_0 d_mo_must_24 ?_
      refine V_aload_0 d_mo_must_25 ?_
      refine V_iload_1 d_mo_must_26 ?_
      refine V_cvI1 d_mo_must_27 ml_mo_425 mv_mo_personOf (by decide) (Nat.le_of_ble_eq_true rfl) is_mo (ok_personOf (hs1.mg hF.1 hG) hF.1 (by omega) (by omega)) ?_
      rintro _ f2 ⟨rfl, e2⟩
      rw [e2]; clear e2 f2
      refine V_cvI1 d_mo_must_30 ml_mo_462 mv_mo_ownOf (by decide) (Nat.le_of_ble_eq_true rfl) is_mo (ok_ownOf (hs1.mg hF.1 hG) (hs1.mh hH) hF.1 hF.2.1 (by omega)) ?_
      rintro _ f2 ⟨rfl, e2⟩
      rw [e2]; clear e2 f2
      refine V_istore_2 d_mo_must_33 rfl ?_
      refine V_aload_0 d_mo_must_34 ?_
      refine V_iload_2 d_mo_must_35 ?_
      refine V_cvI1 d_mo_must_36 ml_mo_474 mv_mo_longestOf (by decide) (Nat.le_of_ble_eq_true rfl) is_mo (ok_longestOf (hs1.mg hF.1 hG) hF.1 ho1 _) ?_
      rintro _ F2 ⟨rfl, hf2⟩
      have hs2 : q_scr f F2 := fun j k hj => by rw [hf2 j k (by omega)]; exact hs1 j k hj
      have ho2 : ∀ k : Nat, (k : Int) < A 0 4 0 → F2 268 k = A 16 k 0 := fun k hk => by rw [hf2 _ _ (by decide)]; exact ho1 k hk
      have em := (hs2.mg hF.1 hG).mt (s := s) (by omega) (by omega)
      refine V_istore_3 d_mo_must_39 rfl ?_
      refine V_aload_0 d_mo_must_40 ?_
      refine V_iload_2 d_mo_must_41 ?_
      refine V_aload_0 d_mo_must_42 ?_
      refine V_getR d_mo_must_43 fl_mo_151 is_mo r_mo_with ?_
      refine V_iload_1 d_mo_must_46 ?_
      refine V_iald d_mo_must_47 is_mo_with (by omega) (by omega) ?_
      rw [em]
      refine V_iand d_mo_must_48 ?_
      rw [mB_and, andc (fun t ht => own_hi ht)]
      refine V_cvI1 d_mo_must_49 ml_mo_474 mv_mo_longestOf (by decide) (Nat.le_of_ble_eq_true rfl) is_mo (ok_longestOf (hs2.mg hF.1 hG) hF.1 ho2 _) ?_
      rintro _ F3 ⟨rfl, hf3⟩
      have hs3 : q_scr f F3 := fun j k hj => by rw [hf3 j k (by omega)]; exact hs2 j k hj
      have ho3 : ∀ k : Nat, (k : Int) < A 0 4 0 → F3 268 k = A 16 k 0 := fun k hk => by rw [hf3 _ _ (by decide)]; exact ho2 k hk
      refine V_iload_3 d_mo_must_52 ?_
      refine V_icmp_ge 58 d_mo_must_53 (by decide) (by omega) (by omega) (fun c53 => ?_) (fun c53 => ?_)
      · skip
        refine V_aload_0 d_mo_must_58 ?_
        refine V_iload_2 d_mo_must_59 ?_
        refine V_iconst 1 d_mo_must_60 ?_
        refine V_iload_1 d_mo_must_61 ?_
        refine V_ishl d_mo_must_62 ?_
        refine V_iconst (-1) d_mo_must_63 ?_
        refine V_ixor d_mo_must_64 ?_
        refine V_iand d_mo_must_65 ?_
        rw [mB_one (by omega), mB_andn]
        refine V_cvI1 d_mo_must_66 ml_mo_474 mv_mo_longestOf (by decide) (Nat.le_of_ble_eq_true rfl) is_mo (ok_longestOf (hs3.mg hF.1 hG) hF.1 ho3 (less (own A (A 7 s 0)) s)) ?_
        rintro _ F4 ⟨rfl, hf4⟩
        refine V_iload_3 d_mo_must_69 ?_
        refine V_icmp_ge 77 d_mo_must_70 (by decide) (by omega) (by omega) (fun c70 => ?_) (fun c70 => ?_)
        · skip
          refine V_iconst 1 d_mo_must_77 ?_
          refine V_ireturn d_mo_must_78 (hR _ _ ?_)
          refine ⟨?_, fun j k hj => by rw [hf4 j k (by omega)]; exact hs3 j k hj⟩
          unfold S_must; rw [if_pos (by omega), if_neg (by omega), if_neg (by omega)]
        · skip
          refine V_iconst 2 d_mo_must_73 ?_
          refine V_goto 78 d_mo_must_74 (by decide) ?_
          refine V_ireturn d_mo_must_78 (hR _ _ ?_)
          refine ⟨?_, fun j k hj => by rw [hf4 j k (by omega)]; exact hs3 j k hj⟩
          unfold S_must; rw [if_pos (by omega), if_neg (by omega), if_pos (by omega)]
      · skip
        refine V_iconst 0 d_mo_must_56 ?_
        refine V_ireturn d_mo_must_57 (hR _ _ ?_)
        refine ⟨?_, hs3⟩
        unfold S_must; rw [if_pos (by omega), if_pos (by omega)]
    · skip
      refine V_iconst (-1) d_mo_must_18 ?_
      refine V_ireturn d_mo_must_19 (hR _ _ ?_)
      refine ⟨?_, fun _ _ _ => rfl⟩
      unfold S_must; rw [if_neg (by omega)]
end MO8
