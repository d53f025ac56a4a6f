/-! take: the row that a crew's digits tell -/
section TAK
variable {D : q_D} {f f' : q_F} {A : q_As} {g h : Int}
theorem tad_ex {x y : Option Int} {v : Int} (h : tad x y = some v) : x = some v ∨ y = some v := by
  cases x with
  | none => right; cases y with
    | none => cases h
    | some b => exact h
  | some a => cases y with
    | none => left; exact h
    | some b =>
      have h : some (min a b) = some v := h
      have h : min a b = v := by cases h; rfl
      rcases (show v = a ∨ v = b by omega) with e | e
      · left; rw [e]
      · right; rw [e]
theorem tml_ex {x y : Option Int} {v : Int} (h : tml x y = some v) : ∃ a b, x = some a ∧ y = some b ∧ v = a + b := by
  cases x with
  | none => cases y <;> cases h
  | some a => cases y with
    | none => cases h
    | some b => exact ⟨a, b, rfl, rfl, by cases h; rfl⟩
theorem SB_ex {F : Int → Option Int} {v : Int} : ∀ n : Nat, SB tad none false n F = some v → ∃ b : Int, 0 ≤ b ∧ b < n ∧ F b = some v := by
  intro n
  induction n with
  | zero => intro h; cases h
  | succ n ih =>
    intro h
    rcases tad_ex (show tad (SB tad none false n F) (F n) = some v from h) with e | e
    · obtain ⟨b, b0, b1, b2⟩ := ih e
      exact ⟨b, b0, by push_cast; omega, b2⟩
    · exact ⟨n, by omega, by push_cast; omega, e⟩
theorem SA_ex {c : Int → Int} {l : Int} {n : Nat} {q : Int → Bool} : ∀ (m k : Nat) (a : Int → Int) (v : Int), k + m ≤ 7 → (∀ j : Int, k ≤ j → j < k + m → q j = true) → SA tad tml none (some 0) false (okS A c l) (smS A c) (cmS A c) (wtS A c 1) n q m k a = some v → ∃ a' : Int → Int, (∀ j : Int, j < k → a' j = a j) ∧ (∀ j : Nat, k ≤ j → j < k + m → (0 ≤ a' j ∧ a' j < n) ∧ vd (okS A c l) (smS A c) (cmS A c) (a' j) j a' = true) ∧ v = (pcP A c a' (k + m) - pcP A c a' k) * 78125 + (pcC a' (k + m) - pcC a' k) := by
  intro m
  induction m with
  | zero =>
    intro k a v _ _ h
    have h : some (0 : Int) = some v := h
    have h : v = 0 := by cases h; rfl
    exact ⟨a, fun _ _ => rfl, fun j h1 h2 => by omega, by rw [h]; show (0 : Int) = (pcP A c a (k + 0) - pcP A c a k) * 78125 + (pcC a (k + 0) - pcC a k); rw [Nat.add_zero]; omega⟩
  | succ m ih =>
    intro k a v hk hq h
    have h : (if q k then SB tad none false n (fun b => if vd (okS A c l) (smS A c) (cmS A c) b k a then tml (wtS A c 1 b k) (SA tad tml none (some 0) false (okS A c l) (smS A c) (cmS A c) (wtS A c 1) n q m (k + 1) (upA a k b)) else none) else SA tad tml none (some 0) false (okS A c l) (smS A c) (cmS A c) (wtS A c 1) n q m (k + 1) a) = some v := h
    rw [if_pos (hq k (by omega) (by push_cast; omega))] at h
    obtain ⟨b, b0, b1, hb⟩ := SB_ex n h
    have hb : (if vd (okS A c l) (smS A c) (cmS A c) b k a then tml (wtS A c 1 b k) (SA tad tml none (some 0) false (okS A c l) (smS A c) (cmS A c) (wtS A c 1) n q m (k + 1) (upA a k b)) else none) = some v := hb
    split at hb
    · next hv =>
      obtain ⟨w, v2, e1, e2, e3⟩ := tml_ex hb
      have e1 : some (A 9 b (c k) * 78125 + b * (15625 / 5 ^ (k : Int).toNat)) = some w := e1
      have e1 : w = A 9 b (c k) * 78125 + b * (15625 / 5 ^ (k : Int).toNat) := by cases e1; rfl
      rw [show (k : Int).toNat = k by omega, (pwI_at (i := k) (by omega)).1] at e1
      obtain ⟨a', a1, a2, a3⟩ := ih (k + 1) (upA a k b) v2 (by omega) (fun j j0 j1 => hq j (by push_cast at j0; omega) (by push_cast at j1 ⊢; omega)) e2
      have ak : a' k = b := by rw [a1 k (by push_cast; omega)]; unfold upA; rw [if_pos rfl]
      have aj : ∀ j : Int, j < k → a' j = a j := fun j hj => by rw [a1 j (by push_cast; omega)]; unfold upA; rw [if_neg (by omega)]
      refine ⟨a', aj, fun j j0 j1 => ?_, ?_⟩
      · by_cases ej : j = k
        · rw [ej, ak]
          refine ⟨⟨b0, b1⟩, ?_⟩
          rw [← hv]; exact vd_eq (fun i i0 i1 => by rw [aj i i1])
        · exact a2 j (by omega) (by omega)
      · have p1 : pcP A c a' (k + 1) = pcP A c a' k + A 9 b (c k) := by show pcP A c a' k + A 9 (a' k) (c k) = _; rw [ak]
        have p2 : pcC a' (k + 1) = pcC a' k + b * pwI (k + 1) := by show pcC a' k + a' k * pwI (k + 1) = _; rw [ak]
        rw [show k + 1 + m = k + (m + 1) by omega] at a3
        rw [e3, e1, a3, p1, p2]
        omega
    · cases hb
theorem bt_full {n : Nat} {j : Int} (j0 : 0 ≤ j) (j1 : j < n) (n7 : n ≤ 7) : bt (2 ^ n - 1) j = true := by
  have key : ∀ n : Nat, n ≤ 7 → ∀ i : Nat, i < n → ((2 : Int) ^ n - 1).toNat.testBit i = true := by decide +kernel
  unfold bt
  rw [decide_eq_true j0, Bool.true_and]
  exact key n n7 j.toNat (by omega)
/-- a crew's digits -/
theorem crV_row (hF : Wf A) {x l v : Int} (hx : -2147483648 ≤ x ∧ x < 2147483648) (h : crV A x l = some v) : 0 ≤ x ∧ cnt (bt x) ≤ 7 ∧ (∀ t, bt x t = true → 0 ≤ t ∧ t < A 0 4 0) ∧ ∀ k : Nat, (k : Int) < cnt (bt x) → (0 ≤ dg v k ∧ dg v k < A 0 2 0) ∧ mB (fun t => held A (dg v k) t && !can A (nth (bt x) k) t) = 0 ∧ ∀ j : Nat, j < k → dg v j = dg v k → can A (nth (bt x) k) (nth (bt x) j) = true := by
  have hn := hF.nn
  have hn2 : 0 ≤ A 0 2 0 ∧ A 0 2 0 ≤ 5 := hF.1.1.2.2.1
  have hcr := cnt_rg (bt x)
  unfold crV at h
  split at h
  · next hok =>
    unfold crOk at hok
    rw [Bool.and_eq_true, Bool.and_eq_true, decide_eq_true_iff, decide_eq_true_iff, decide_eq_true_iff] at hok
    obtain ⟨⟨l0, x0⟩, hm, h7⟩ := hok
    have hnO : ((nOf (bt x) : Nat) : Int) = cnt (bt x) := by unfold nOf; omega
    have hin : ∀ t, bt x t = true → 0 ≤ t ∧ t < A 0 4 0 := fun t ht => by
      have t0 : 0 ≤ t := by unfold bt at ht; rw [Bool.and_eq_true, decide_eq_true_iff] at ht; exact ht.1
      rcases Int.lt_or_le t 31 with e | e
      · have := (mB_is0 _).mp hm t t0 e
        rw [ht] at this
        exact ⟨t0, held_hi (A := A) (sh := -1) (by simpa using this)⟩
      · rw [bt_hi (k := 31) x0 hx.2 e] at ht; cases ht
    have hq : ∀ j : Int, (0 : Nat) ≤ j → j < (0 : Nat) + (nOf (bt x) : Nat) → bt (2 ^ nOf (bt x) - 1) j = true := fun j j0 j1 => bt_full (by omega) (by push_cast at j1; omega) (by omega)
    obtain ⟨a, -, a2, a3⟩ := SA_ex (A := A) (nOf (bt x)) 0 a7 v (by omega) hq h
    rw [Nat.zero_add] at a2 a3
    have a3 : v = (pcP A (chs (bt x)) a (nOf (bt x)) - 0) * 78125 + (pcC a (nOf (bt x)) - 0) := a3
    have ha5 : ∀ k : Int, 0 ≤ k → k < nOf (bt x) → 0 ≤ a k ∧ a k < 5 := fun k k0 k1 => by
      have := (a2 k.toNat (by omega) (by omega)).1
      rw [Int.toNat_of_nonneg k0] at this; omega
    have hr := pcC_rg (nOf (bt x)) (by omega) ha5
    have hpw : 0 < pwI (nOf (bt x)) := by
      have : ∀ i : Nat, i ≤ 7 → 0 < pwI i := by decide +kernel
      exact this _ (by omega)
    have hd : ∀ k : Nat, (k : Int) < cnt (bt x) → dg v k = a k := fun k hk => by
      unfold dg
      rw [show v % 78125 = pcC a (nOf (bt x)) by omega]
      exact pcC_dg (by omega) ha5 (by omega) (by omega)
    refine ⟨x0, h7, hin, fun k hk => ?_⟩
    obtain ⟨r1, r2⟩ := a2 k (by omega) (by omega)
    rw [hd k hk]
    unfold vd at r2
    rw [Bool.and_eq_true] at r2
    obtain ⟨r3, r4⟩ := r2
    have hk9 : ¬ a k = 9 := by omega
    unfold okS at r3
    rw [if_neg hk9, Bool.and_eq_true, decide_eq_true_iff, decide_eq_true_iff] at r3
    refine ⟨by omega, r3.2, fun j hj he => ?_⟩
    rw [hd j (by omega)] at he
    have r5 := (allI_iff _ _ _).mp r4 j (by omega) (by omega)
    have hsm : smS A (chs (bt x)) (a k) j k = true := by unfold smS; rw [if_neg hk9]
    rw [decide_eq_true he, hsm] at r5
    exact r5
  · cases h
/-- what tkN tells -/
theorem tkN_at {x v : Int} (s : Int) : ∀ k : Nat, (∃ j : Nat, j < k ∧ s = nth (bt x) j ∧ tkN A x v k s = dg v j) ∨ tkN A x v k s = A 11 s 0 := by
  intro k
  induction k with
  | zero => exact Or.inr rfl
  | succ k ih =>
    have e : tkN A x v (k + 1) s = if s = nth (bt x) k then dg v k else tkN A x v k s := rfl
    rw [e]
    split
    · next hs => exact Or.inl ⟨k, by omega, hs, rfl⟩
    · rcases ih with ⟨j, j1, j2, j3⟩ | h
      · exact Or.inl ⟨j, by omega, j2, j3⟩
      · exact Or.inr h
theorem W_take (hF : Wf A) {x l : Int} (hx : -2147483648 ≤ x ∧ x < 2147483648) : Wf (A_take A x l) := by
  unfold A_take
  split
  · exact hF
  · cases hv : crV A x l with
    | none => exact hF
    | some v =>
      refine W_push hF ?_
      obtain ⟨x0, h7, hin, hrow⟩ := crV_row hF hx hv
      have hn := hF.nn
      have hcr := cnt_rg (bt x)
      have hnO : ((nOf (bt x) : Nat) : Int) = cnt (bt x) := by unfold nOf; omega
      have hnt : ∀ k : Nat, (k : Int) < cnt (bt x) → 0 ≤ nth (bt x) k ∧ nth (bt x) k < A 0 4 0 := fun k hk => by
        have := nth_at (p := bt x) (fun t _ _ ht => by have := (hin t ht).2; omega) (k := k) (by omega) hk
        exact hin _ this.2.2
      have one : ∀ (k : Nat) (u : Int), (k : Int) < cnt (bt x) → 0 ≤ u → u < A 0 4 0 → A 11 u 0 = dg v k → can A (nth (bt x) k) u = true := fun k u hk u0 u1 he => by
        have := (mB_is0 _).mp (hrow k hk).2.1 u u0 (by omega)
        have hh : held A (dg v k) u = true := by unfold held; simp [he, u1]
        rw [hh] at this; simpa using this
      refine ⟨fun s s0 s1 => ?_, fun s u s0 s1 u0 u1 he h0 => ?_⟩
      · rcases tkN_at (A := A) (x := x) (v := v) s (nOf (bt x)) with ⟨j, j1, j2, j3⟩ | h
        · rw [j3]; have := (hrow j (by omega)).1; omega
        · rw [h]; exact hF.2.1.1 s s0 s1
      · rcases tkN_at (A := A) (x := x) (v := v) s (nOf (bt x)) with ⟨j, j1, j2, j3⟩ | h
        · rcases tkN_at (A := A) (x := x) (v := v) u (nOf (bt x)) with ⟨i, i1, i2, i3⟩ | h'
          · rw [j3, i3] at he
            rw [j2, i2]
            rcases Nat.lt_trichotomy i j with e | e | e
            · exact (hrow j (by omega)).2.2 i e he.symm
            · rw [e]; exact can_refl hF.1 (hnt j (by omega))
            · rw [can_symm hF.1 (hnt j (by omega)) (hnt i (by omega))]; exact (hrow i (by omega)).2.2 j e he
          · rw [j3, h'] at he
            rw [j2]; exact one j u (by omega) u0 u1 he.symm
        · rcases tkN_at (A := A) (x := x) (v := v) u (nOf (bt x)) with ⟨i, i1, i2, i3⟩ | h'
          · rw [h, i3] at he
            rw [i2, can_symm hF.1 ⟨s0, s1⟩ (hnt i (by omega))]; exact one i s (by omega) s0 s1 he
          · rw [h, h'] at he
            rw [h] at h0
            exact hF.2.1.2.1 s u s0 s1 u0 u1 he h0
theorem hs_take (hS : Cst g f A) (hF : Wf A) {x l : Int} (hx : -2147483648 ≤ x ∧ x < 2147483648) (hl : -2147483648 ≤ l ∧ l < 2147483648) : OkI D m_hs_take [vr D 0, vi x, vi l] (Zg g h) f (fun y f' => y = S_take A x l ∧ Cst g f' (A_take A x l) ∧ q_lo f f') := by
  have hg := hS.1
  have hn := hF.nn
  have hcr := cnt_rg (bt x)
  have hnO : ((nOf (bt x) : Nat) : Int) = cnt (bt x) := by unfold nOf; omega
  refine OkI_of (L0 := [vr D 0, vi x, vi l, vu]) mi_hs_take rfl rfl (Nat.le_of_ble_eq_true rfl) (fun C hR => ?_)
  by_cases hx0 : x = 0
  · have hR : ∀ f', Cst g f' A ∧ q_lo f f' → q_ret D C m_hs_take (vi (-1)) (Zg g h) f' := fun f' hf => hR (-1) f' ⟨by unfold S_take; rw [if_pos hx0], by unfold A_take; rw [if_pos hx0]; exact hf.1, hf.2⟩
    refine V_iload_1 d_hs_take_0 ?_
    refine V_if_eq 13 d_hs_take_1 (by decide) (by omega) (fun c1 => ?_) (fun c1 => by omega)
    refine V_iconst (-1) d_hs_take_13 ?_
    exact V_ireturn d_hs_take_14 (hR f ⟨hS, q_lo.refl f⟩)
  · cases hv : crV A x l with
    | none =>
      refine V_iload_1 d_hs_take_0 ?_
      refine V_if_eq 13 d_hs_take_1 (by decide) (by omega) (fun c1 => by omega) (fun c1 => ?_)
      refine V_aload_0 d_hs_take_4 ?_
      refine V_iload_1 d_hs_take_5 ?_
      refine V_iload_2 d_hs_take_6 ?_
      refine V_cvI2 d_hs_take_7 ml_hs_207 mv_hs_findCrew (by decide) (Nat.le_of_ble_eq_true rfl) is_hs (ok_findCrew hS hF hx hl) ?_
      rintro y F ⟨hy, hf⟩
      have hy0 : y = 0 := by
        rcases hy with h | ⟨-, w, hw, -⟩
        · exact h.1
        · rw [hv] at hw; cases hw
      subst hy0
      refine V_if_ne 15 d_hs_take_10 (by decide) (by omega) (fun c10 => by omega) (fun c10 => ?_)
      refine V_iconst (-1) d_hs_take_13 ?_
      refine V_ireturn d_hs_take_14 (hR _ _ ?_)
      refine ⟨by unfold S_take; rw [if_neg hx0, hv], ?_, fun j k hj => hf j k (by omega)⟩
      unfold A_take; rw [if_neg hx0, hv]; exact hS.scr hF hf
    | some v =>
      have K24 : ∀ (F0 : q_F), (∀ j i, ¬ (43 ≤ j ∧ j < 50) → F0 j i = f j i) → (F0 45 3 = v / 78125 ∧ F0 45 1 = cnt (bt x) ∧ cnt (bt x) ≤ 7 ∧ (∀ k : Int, 0 ≤ k → k < cnt (bt x) → F0 46 k = nth (bt x) k ∧ 0 ≤ nth (bt x) k ∧ nth (bt x) k < A 0 4 0) ∧ ∀ k : Int, 0 ≤ k → k < 7 → F0 47 k = dg v k) → ∀ (F1 : q_F), q_kept F0 F1 A → ∀ (m : Nat) (k : Nat) (F : q_F), (k : Int) + m = cnt (bt x) → (∀ j i, ¬ j = 11 → F j i = F1 j i) → (∀ s, 0 ≤ s → s < A 0 4 0 → F 11 s = tkN A x v k s) → V D C m_hs_take 24 [vr D 0, vi x, vi l, vi (k : Int)] [] (Zg g h) F := by
        intro F0 hf0 hv0 F1 hk1 m
        obtain ⟨v2, v3, v4, v5, v6⟩ := hv0
        obtain ⟨k1, k2, k3, k4, k5⟩ := hk1
        induction m with
        | zero =>
          intro k F km hfr hT
          have c1 : F 45 1 = cnt (bt x) := by rw [hfr _ _ (by decide), k1 _ _ (by omega)]; exact v3
          have c3 : F 45 3 = v / 78125 := by rw [hfr _ _ (by decide), k1 _ _ (by omega)]; exact v2
          refine V_iload_3 d_hs_take_24 ?_
          refine V_aload_0 d_hs_take_25 ?_
          refine V_getR d_hs_take_26 fl_hs_42 is_hs r_hs_crews ?_
          refine V_getI d_hs_take_29 fl_hs_213 is_cr ?_
          rw [c1]
          refine V_icmp_ge 67 d_hs_take_32 (by decide) (by omega) (by omega) (fun c32 => ?_) (fun c32 => by omega)
          refine V_aload_0 d_hs_take_67 ?_
          refine V_getR d_hs_take_68 fl_hs_42 is_hs r_hs_crews ?_
          refine V_getI d_hs_take_71 fl_hs_210 is_cr ?_
          rw [c3]
          refine V_ireturn d_hs_take_74 (hR _ _ ?_)
          refine ⟨by unfold S_take; rw [if_neg hx0, hv], ?_, fun j i hj => ?_⟩
          · unfold A_take; rw [if_neg hx0, hv]
            have hS0 : Cst g F0 A := hS.scr hF hf0
            refine hS0.hires hF (fun j i hj => ?_) (fun s s0 s1 => ?_) ?_ ?_ (fun i s i0 i1 s0 s1 => ?_)
            · rw [hfr _ _ (by omega)]; exact k1 j i hj
            · rw [hT s s0 s1, show nOf (bt x) = k by omega]
            · rw [hfr _ _ (by decide)]; exact k3
            · rw [hfr _ _ (by decide)]; exact k4
            · rw [hfr 10 2 (by decide), hfr _ _ (by omega)]; exact k5 i s i0 i1 s0 s1
          · rw [hfr _ _ (by omega), k1 _ _ (by omega)]; exact hf0 j i (by omega)
        | succ m ih =>
          intro k F km hfr hT
          have c1 : F 45 1 = cnt (bt x) := by rw [hfr _ _ (by decide), k1 _ _ (by omega)]; exact v3
          have nk := v5 k (by omega) (by omega)
          have c46 : F 46 k = nth (bt x) k := by rw [hfr _ _ (by decide), k1 _ _ (by omega)]; exact nk.1
          have c47 : F 47 k = dg v k := by rw [hfr _ _ (by decide), k1 _ _ (by omega)]; exact v6 k (by omega) (by omega)
          have nx := ih (k + 1) (q_up F 11 (nth (bt x) k) (dg v k)) (by push_cast at km ⊢; omega) (fun j i hj => by rw [q_up_at hj]; exact hfr j i hj) (fun s s0 s1 => by
            show _ = if s = nth (bt x) k then dg v k else tkN A x v k s
            by_cases es : s = nth (bt x) k
            · rw [if_pos es, es, q_up_eq]
            · rw [if_neg es, q_up_ne (Or.inr es)]; exact hT s s0 s1)
          push_cast at nx
          refine V_iload_3 d_hs_take_24 ?_
          refine V_aload_0 d_hs_take_25 ?_
          refine V_getR d_hs_take_26 fl_hs_42 is_hs r_hs_crews ?_
          refine V_getI d_hs_take_29 fl_hs_213 is_cr ?_
          rw [c1]
          refine V_icmp_ge 67 d_hs_take_32 (by decide) (by omega) (by omega) (fun c32 => by omega) (fun c32 => ?_)
          refine V_aload_0 d_hs_take_35 ?_
          refine V_getR d_hs_take_36 fl_hs_28 is_hs r_hs_hires ?_
          refine V_getR d_hs_take_39 fl_hs_143 is_hi r_hi_shadeOf ?_
          refine V_aload_0 d_hs_take_42 ?_
          refine V_getR d_hs_take_43 fl_hs_42 is_hs r_hs_crews ?_
          refine V_getR d_hs_take_46 fl_hs_219 is_cr r_cr_chosen ?_
          refine V_iload_3 d_hs_take_49 ?_
          refine V_iald d_hs_take_50 is_cr_chosen (by omega) (by omega) ?_
          rw [c46]
          refine V_aload_0 d_hs_take_51 ?_
          refine V_getR d_hs_take_52 fl_hs_42 is_hs r_hs_crews ?_
          refine V_getR d_hs_take_55 fl_hs_216 is_cr r_cr_crewOf ?_
          refine V_iload_3 d_hs_take_58 ?_
          refine V_iald d_hs_take_59 is_cr_crewOf (by omega) (by omega) ?_
          rw [c47]
          refine V_iast d_hs_take_60 is_hi_shadeOf (by omega) (by omega) ?_
          refine V_iinc_3 d_hs_take_61 rfl ?_
          refine V_goto 24 d_hs_take_64 (by decide) ?_
          exact nx
      refine V_iload_1 d_hs_take_0 ?_
      refine V_if_eq 13 d_hs_take_1 (by decide) (by omega) (fun c1 => by omega) (fun c1 => ?_)
      refine V_aload_0 d_hs_take_4 ?_
      refine V_iload_1 d_hs_take_5 ?_
      refine V_iload_2 d_hs_take_6 ?_
      refine V_cvI2 d_hs_take_7 ml_hs_207 mv_hs_findCrew (by decide) (Nat.le_of_ble_eq_true rfl) is_hs (ok_findCrew hS hF hx hl) ?_
      rintro y F ⟨hy, hf⟩
      have hy1 : y = 1 ∧ (F 45 3 = v / 78125 ∧ F 45 1 = cnt (bt x) ∧ cnt (bt x) ≤ 7 ∧ (∀ k : Int, 0 ≤ k → k < cnt (bt x) → F 46 k = nth (bt x) k ∧ 0 ≤ nth (bt x) k ∧ nth (bt x) k < A 0 4 0) ∧ ∀ k : Int, 0 ≤ k → k < 7 → F 47 k = dg v k) := by
        rcases hy with h | ⟨h1, w, hw, hw2⟩
        · rw [hv] at h; cases h.2
        · rw [hv] at hw; cases hw; exact ⟨h1, hw2⟩
      obtain ⟨hy1, hw⟩ := hy1
      subst hy1
      have hSF : Cst g F A := hS.scr hF hf
      refine V_if_ne 15 d_hs_take_10 (by decide) (by omega) (fun c10 => ?_) (fun c10 => by omega)
      refine V_aload_0 d_hs_take_15 ?_
      refine V_getR d_hs_take_16 fl_hs_28 is_hs r_hs_hires ?_
      refine V_cvV0 d_hs_take_19 ml_hs_200 mv_hi_remember (by decide) (Nat.le_of_ble_eq_true rfl) is_hi (ok_remember hSF.2.2.1 hF) ?_
      rintro F1 hk
      refine V_iconst 0 d_hs_take_22 ?_
      refine V_istore_3 d_hs_take_23 rfl ?_
      exact K24 F hf hw F1 hk (nOf (bt x)) 0 F1 (by omega) (fun _ _ _ => rfl) (fun s s0 s1 => by rw [hk.2.1 s]; exact hSF.2.2.1.1 s s0 s1)
end TAK
