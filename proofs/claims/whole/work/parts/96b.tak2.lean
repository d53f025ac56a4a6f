/-! take of the reference -/
section TAK2
variable {D : q_D} {f f' : q_F} {A : q_As} {g h : Int}
theorem cnt_no {p : Int → Bool} (h : cnt p = 0) {t : Int} (t0 : 0 ≤ t) (t1 : t < 31) : p t = false := by
  cases hp : p t with
  | false => rfl
  | true =>
    exfalso
    have h1 := cnt_step p t0 t1
    rw [hp] at h1
    have h2 := cnt_le (p := fun j => decide (j < t + 1) && p j) (q := p) (fun u _ _ hu => by rw [Bool.and_eq_true] at hu; exact hu.2)
    have h3 := cnt_rg (fun j => decide (j < t) && p j)
    simp only [if_true] at h1
    omega
theorem cnt_bt {x : Int} (h0 : 0 ≤ x) (h1 : x < 2147483648) : cnt (bt x) = 0 ↔ x = 0 := by
  constructor
  · intro h
    have := (mB_is0 (bt x)).mpr (fun i i0 i1 => cnt_no h i0 i1)
    rw [mB_bt2 h0 h1] at this; exact this
  · intro h
    rw [h]
    have e : bt 0 = fun _ => false := bt_0
    rw [e]; decide +kernel
theorem mo_take (hS : Mst f A) (hF : Wf A) {x l : Int} (hx : -2147483648 ≤ x ∧ x < 2147483648) (hl : -2147483648 ≤ l ∧ l < 2147483648) : OkI D m_mo_take [vr D 219, vi x, vi l] (Zg g h) f (fun y f' => y = S_take A x l ∧ Mst f' (A_take A x l) ∧ q_hi f f') := by
  have hn := hF.nn
  have hcr := cnt_rg (bt x)
  have hnO : ((nOf (bt x) : Nat) : Int) = cnt (bt x) := by unfold nOf; omega
  refine OkI_of (L0 := [vr D 219, vi x, vi l, vu, vu]) mi_mo_take rfl rfl (Nat.le_of_ble_eq_true rfl) (fun C hR => ?_)
  have none19 : ∀ (F : q_F) (y : Int) (u : Value), S_take A x l = -1 → A_take A x l = A → (∀ j k, ¬ (267 ≤ j ∧ j ≤ 272) → ¬ (j = 219 ∧ k = 69) → F j k = f j k) → V D C m_mo_take 19 [vr D 219, vi x, vi l, vi y, u] [] (Zg g h) F := by
    intro F y u h1 h2 hf
    rw [h1, h2] at hR
    refine V_iconst (-1) d_mo_take_19 ?_
    refine V_ireturn d_mo_take_20 (hR _ _ ?_)
    exact ⟨rfl, hS.scr hF hf, fun j k hj => hf j k (by omega) (by omega)⟩
  cases hv : crV A x l with
  | none =>
    have h1 : S_take A x l = -1 := by unfold S_take; rw [hv]; split <;> rfl
    have h2 : A_take A x l = A := by unfold A_take; rw [hv]; split <;> rfl
    refine V_aload_0 d_mo_take_0 ?_
    refine V_iload_1 d_mo_take_1 ?_
    refine V_iload_2 d_mo_take_2 ?_
    refine V_cvI2 d_mo_take_3 ml_mo_512 mv_mo_crewFor (by decide) (Nat.le_of_ble_eq_true rfl) is_mo (ok_crewFor hS hF hx hl) ?_
    rintro y F ⟨e, -, hf⟩
    rw [hv] at e
    have e : y = -1 := e
    subst e
    refine V_istore_3 d_mo_take_6 rfl ?_
    refine V_iload_3 d_mo_take_7 ?_
    refine V_iconst (-1) d_mo_take_8 ?_
    refine V_icmp_eq 19 d_mo_take_9 (by decide) (by omega) (by omega) (fun c9 => ?_) (fun c9 => by omega)
    exact none19 F _ _ h1 h2 hf
  | some v =>
    obtain ⟨x0, h7, hin, hrow⟩ := crV_row hF hx hv
    by_cases hx0 : x = 0
    · have h1 : S_take A x l = -1 := by unfold S_take; rw [if_pos hx0]
      have h2 : A_take A x l = A := by unfold A_take; rw [if_pos hx0]
      have hc0 := (cnt_bt x0 hx.2).mpr hx0
      refine V_aload_0 d_mo_take_0 ?_
      refine V_iload_1 d_mo_take_1 ?_
      refine V_iload_2 d_mo_take_2 ?_
      refine V_cvI2 d_mo_take_3 ml_mo_512 mv_mo_crewFor (by decide) (Nat.le_of_ble_eq_true rfl) is_mo (ok_crewFor hS hF hx hl) ?_
      rintro y F ⟨e, hw, hf⟩
      obtain ⟨w1, w2, w3, w4, w5, w6⟩ := hw v hv
      rw [hv] at e
      have e : y = v / 78125 := e
      subst e
      refine V_istore_3 d_mo_take_6 rfl ?_
      refine V_iload_3 d_mo_take_7 ?_
      refine V_iconst (-1) d_mo_take_8 ?_
      refine V_icmp_eq 19 d_mo_take_9 (by decide) (by omega) (by omega) (fun c9 => by omega) (fun c9 => ?_)
      refine V_aload_0 d_mo_take_12 ?_
      refine V_getI d_mo_take_13 fl_mo_491 is_mo ?_
      rw [w3, hc0]
      refine V_if_ne 21 d_mo_take_16 (by decide) (by omega) (fun c16 => by omega) (fun c16 => ?_)
      exact none19 F _ _ h1 h2 hf
    · have hc0 : ¬ cnt (bt x) = 0 := fun e => hx0 ((cnt_bt x0 hx.2).mp e)
      have K28 : ∀ (F0 : q_F), 0 ≤ v → v < 600000000 → (∀ j k, ¬ (267 ≤ j ∧ j ≤ 272) → ¬ (j = 219 ∧ k = 69) → F0 j k = f j k) → F0 219 69 = cnt (bt x) → (∀ k : Int, 0 ≤ k → k < cnt (bt x) → F0 269 k = nth (bt x) k ∧ 0 ≤ nth (bt x) k ∧ nth (bt x) k < A 0 4 0) → (∀ k : Int, 0 ≤ k → k < cnt (bt x) → F0 272 k = dg v k) → ∀ (F1 : q_F), q_keptM F0 F1 A → ∀ (m : Nat) (k : Nat) (F : q_F), (k : Int) + m = cnt (bt x) → (∀ j i, ¬ j = 264 → F j i = F1 j i) → (∀ s, 0 ≤ s → s < A 0 4 0 → F 264 s = tkN A x v k s) → V D C m_mo_take 28 [vr D 219, vi x, vi l, vi (v / 78125), vi (k : Int)] [] (Zg g h) F := by
        intro F0 w1 w2 hf0 w3 w5 w6 F1 hk1 m
        obtain ⟨k1, k3, k4, k5⟩ := hk1
        induction m with
        | zero =>
          intro k F km hfr hT
          have c1 : F 219 69 = cnt (bt x) := by rw [hfr _ _ (by decide), k1 _ _ (by omega) (by omega)]; exact w3
          refine V_iload_4 d_mo_take_28 ?_
          refine V_aload_0 d_mo_take_30 ?_
          refine V_getI d_mo_take_31 fl_mo_491 is_mo ?_
          rw [c1]
          refine V_icmp_ge 62 d_mo_take_34 (by decide) (by omega) (by omega) (fun c34 => ?_) (fun c34 => by omega)
          refine V_iload_3 d_mo_take_62 ?_
          refine V_ireturn d_mo_take_63 (hR _ _ ?_)
          refine ⟨by unfold S_take; rw [if_neg hx0, hv], ?_, fun j i hj => ?_⟩
          · unfold A_take; rw [if_neg hx0, hv]
            have hS0 : Mst F0 A := hS.scr hF hf0
            refine hS0.hires hF (fun j i h1 h2 h3 => ?_) (fun s s0 s1 => ?_) ?_ ?_ (fun i s i0 i1 s0 s1 => ?_)
            · rw [hfr _ _ h1]; exact k1 j i h2 h3
            · rw [hT s s0 s1, show nOf (bt x) = k by omega]
            · rw [hfr _ _ (by decide)]; exact k3
            · rw [hfr _ _ (by decide)]; exact k4
            · rw [hfr 219 65 (by decide), hfr _ _ (by omega)]; exact k5 i s i0 i1 s0 s1
          · rw [hfr _ _ (by omega), k1 _ _ (by omega) (by omega)]; exact hf0 j i (by omega) (by omega)
        | succ m ih =>
          intro k F km hfr hT
          have c1 : F 219 69 = cnt (bt x) := by rw [hfr _ _ (by decide), k1 _ _ (by omega) (by omega)]; exact w3
          have nk := w5 k (by omega) (by omega)
          have c46 : F 269 k = nth (bt x) k := by rw [hfr _ _ (by decide), k1 _ _ (by omega) (by omega)]; exact nk.1
          have c47 : F 272 k = dg v k := by rw [hfr _ _ (by decide), k1 _ _ (by omega) (by omega)]; exact w6 k (by omega) (by omega)
          have nx := ih (k + 1) (q_up F 264 (nth (bt x) k) (dg v k)) (by push_cast at km ⊢; omega) (fun j i hj => by rw [q_up_at hj]; exact hfr j i hj) (fun s s0 s1 => by
            show _ = if s = nth (bt x) k then dg v k else tkN A x v k s
            by_cases es : s = nth (bt x) k
            · rw [if_pos es, es, q_up_eq]
            · rw [if_neg es, q_up_ne (Or.inr es)]; exact hT s s0 s1)
          push_cast at nx
          refine V_iload_4 d_mo_take_28 ?_
          refine V_aload_0 d_mo_take_30 ?_
          refine V_getI d_mo_take_31 fl_mo_491 is_mo ?_
          rw [c1]
          refine V_icmp_ge 62 d_mo_take_34 (by decide) (by omega) (by omega) (fun c34 => by omega) (fun c34 => ?_)
          refine V_aload_0 d_mo_take_37 ?_
          refine V_getR d_mo_take_38 fl_mo_148 is_mo r_mo_hired ?_
          refine V_aload_0 d_mo_take_41 ?_
          refine V_getR d_mo_take_42 fl_mo_163 is_mo r_mo_open0 ?_
          refine V_iload_4 d_mo_take_45 ?_
          refine V_iald d_mo_take_47 is_mo_open0 (by omega) (by omega) ?_
          rw [c46]
          refine V_aload_0 d_mo_take_48 ?_
          refine V_getR d_mo_take_49 fl_mo_172 is_mo r_mo_bestBody ?_
          refine V_iload_4 d_mo_take_52 ?_
          refine V_iald d_mo_take_54 is_mo_bestBody (by omega) (by omega) ?_
          rw [c47]
          refine V_iast d_mo_take_55 is_mo_hired (by omega) (by omega) ?_
          refine V_iinc_4 d_mo_take_56 rfl ?_
          refine V_goto 28 d_mo_take_59 (by decide) ?_
          exact nx
      refine V_aload_0 d_mo_take_0 ?_
      refine V_iload_1 d_mo_take_1 ?_
      refine V_iload_2 d_mo_take_2 ?_
      refine V_cvI2 d_mo_take_3 ml_mo_512 mv_mo_crewFor (by decide) (Nat.le_of_ble_eq_true rfl) is_mo (ok_crewFor hS hF hx hl) ?_
      rintro y F ⟨e, hw, hf⟩
      obtain ⟨w1, w2, w3, w4, w5, w6⟩ := hw v hv
      rw [hv] at e
      have e : y = v / 78125 := e
      subst e
      have hSF : Mst F A := hS.scr hF hf
      refine V_istore_3 d_mo_take_6 rfl ?_
      refine V_iload_3 d_mo_take_7 ?_
      refine V_iconst (-1) d_mo_take_8 ?_
      refine V_icmp_eq 19 d_mo_take_9 (by decide) (by omega) (by omega) (fun c9 => by omega) (fun c9 => ?_)
      refine V_aload_0 d_mo_take_12 ?_
      refine V_getI d_mo_take_13 fl_mo_491 is_mo ?_
      rw [w3]
      refine V_if_ne 21 d_mo_take_16 (by decide) (by omega) (fun c16 => ?_) (fun c16 => by omega)
      refine V_aload_0 d_mo_take_21 ?_
      refine V_cvV0 d_mo_take_22 ml_mo_506 mv_mo_keepsHires (by decide) (Nat.le_of_ble_eq_true rfl) is_mo (ok_keepsHires hSF.2.1 hF) ?_
      rintro F1 hk
      refine V_iconst 0 d_mo_take_25 ?_
      refine V_istore_4 d_mo_take_26 rfl ?_
      exact K28 F w1 w2 hf w3 w5 w6 F1 hk (nOf (bt x)) 0 F1 (by omega) (fun _ _ _ => rfl) (fun s s0 s1 => by rw [hk.1 _ _ (by decide) (by omega)]; exact hSF.2.1.1 s s0 s1)
end TAK2
