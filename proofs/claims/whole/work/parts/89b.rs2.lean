/-! the reference reads sums: one part -/
def nMk : List Int → Int
  | [] => 0
  | x :: K => (if isMk x then 1 else 0) + nMk K
section RS2
variable {D : q_D} {f f' : q_F} {A : q_As} {g h : Int} {T : Int → Int} {N p e : Int}
theorem nMk_rg : ∀ K : List Int, 0 ≤ nMk K := by
  intro K
  induction K with
  | nil => exact Int.le_refl _
  | cons x K ih => unfold nMk; split <;> omega
theorem nMk_no : ∀ K : List Int, tmk K = -1 → (∀ x ∈ K, 0 ≤ x) → nMk K = 0 := by
  intro K
  induction K with
  | nil => intro _ _; rfl
  | cons x K ih =>
    intro h hx
    have h0 := hx x (List.mem_cons_self ..)
    have h : (if isMk x then x else tmk K) = -1 := h
    unfold nMk
    cases hm : isMk x
    · rw [hm, if_neg (by decide)] at h
      rw [if_neg (by decide), ih h (fun y hy => hx y (List.mem_cons_of_mem _ hy))]; rfl
    · rw [hm, if_pos rfl] at h; omega
theorem nMk_drm : ∀ K : List Int, ¬ tmk K = -1 → nMk (drm K) = nMk K - 1 := by
  intro K
  induction K with
  | nil => intro h; exact absurd rfl h
  | cons x K ih =>
    intro h
    cases hm : isMk x
    · have h2 : ¬ tmk K = -1 := by
        have : (if isMk x then x else tmk K) = tmk K := by rw [hm]; rfl
        intro e; exact h (this.trans e)
      have h3 : drm (x :: K) = drm K := by unfold drm; rw [List.dropWhile_cons, hm]; rfl
      rw [h3, ih h2]
      show _ = (if isMk x then 1 else 0) + nMk K - 1
      rw [hm]; simp
    · rw [(tmk_mk hm).2.2]
      show _ = (if isMk x then 1 else 0) + nMk K - 1
      rw [hm]; simp; omega
theorem nMk_dw {P : Int → Bool} (hP : ∀ x, P x = true → isMk x = false) : ∀ K : List Int, nMk (K.dropWhile P) = nMk K := by
  intro K
  induction K with
  | nil => rfl
  | cons x K ih =>
    rw [List.dropWhile_cons]
    cases hp : P x
    · rfl
    · rw [if_pos rfl, ih]
      show _ = (if isMk x then 1 else 0) + nMk K
      rw [hP x hp]; simp
/-- K is what is dropped to the mark, and the mark, and the rest -/
theorem tkm_split : ∀ K : List Int, ¬ tmk K = -1 → K = tkm K ++ tmk K :: drm K := by
  intro K
  induction K with
  | nil => intro h; exact absurd rfl h
  | cons x K ih =>
    intro h
    cases hm : isMk x
    · have h1 : tmk (x :: K) = tmk K := by show (if isMk x then x else tmk K) = _; rw [hm]; rfl
      have h2 : tkm (x :: K) = x :: tkm K := by unfold tkm; rw [List.takeWhile_cons, hm]; rfl
      have h3 : drm (x :: K) = drm K := by unfold drm; rw [List.dropWhile_cons, hm]; rfl
      rw [h1] at h
      rw [h1, h2, h3, List.cons_append, ← ih h]
    · obtain ⟨h1, h2, h3⟩ := tmk_mk (K := K) hm
      rw [h1, h2, h3]; rfl
theorem tkm_no : ∀ K : List Int, ∀ x ∈ tkm K, isMk x = false := by
  intro K
  induction K with
  | nil => intro x hx; cases hx
  | cons y K ih =>
    intro x hx
    unfold tkm at hx
    rw [List.takeWhile_cons] at hx
    cases hm : isMk y
    · rw [hm] at hx
      rcases List.mem_cons.mp hx with e | e
      · rw [e]; exact hm
      · exact ih x e
    · rw [hm] at hx; cases hx
theorem mpS.fr2 {e0 : Int × Int} (hT : mpS f T N (.inl e0)) (x : Int) : mpS (q_up f 219 2 x) T N (.inl e0) :=
  ⟨hT.1, by rw [q_up_ne (Or.inr (by decide))]; exact hT.2.1, fun k k0 k1 => by rw [q_up_at (by decide)]; exact hT.2.2.1 k k0 k1, by rw [q_up_ne (Or.inr (by decide))]; exact hT.2.2.2.1, by rw [q_up_ne (Or.inr (by decide))]; exact hT.2.2.2.2.1, hT.2.2.2.2.2⟩
theorem ok_dropsToMark {U K0 L : List Int} {m : Int} {K : List Int} (hU : ∀ x ∈ U, isMk x = false) (hm : isMk m = true) (hK : wS f (U ++ (m :: K) ++ K0)) (hb : f 219 55 = K0.length) (hL : rcS f L) (hn : (L.length : Int) + (U ++ (m :: K) ++ K0).length ≤ 1600) : OkV D m_mo_dropsToMark [vr D 219] (Zg g h) f (fun f' => wS f' ((m :: K) ++ K0) ∧ rcS f' (L ++ U) ∧ ∀ j k, ¬ j = 255 → ¬ (j = 219 ∧ (k = 48 ∨ k = 50)) → f' j k = f j k) := by
  refine OkV_of (L0 := [vr D 219]) mi_mo_dropsToMark rfl rfl (Nat.le_of_ble_eq_true rfl) (fun C hR => ?_)
  have loop : ∀ (W L' : List Int) (F : q_F), (∀ x ∈ W, isMk x = false) → wS F (W ++ (m :: K) ++ K0) → rcS F L' → L' ++ W = L ++ U → (L'.length : Int) + (W ++ (m :: K) ++ K0).length ≤ 1600 → (∀ j k, ¬ j = 255 → ¬ (j = 219 ∧ (k = 48 ∨ k = 50)) → F j k = f j k) → V D C m_mo_dropsToMark 0 [vr D 219] [] (Zg g h) F := by
    intro W
    induction W with
    | nil =>
      intro L' F hV hK' hL' heq hn' hf
      have hK2 : wS F (m :: (K ++ K0)) := hK'
      obtain ⟨h1, h2, h3⟩ := hK2.top
      have hlen : ((K ++ K0).length : Int) = K.length + K0.length := by rw [List.length_append]; push_cast; rfl
      have hn2 : (L'.length : Int) + ((K ++ K0).length + 1) ≤ 1600 := by simpa using hn'
      refine V_aload_0 d_mo_dropsToMark_0 ?_
      refine V_getI d_mo_dropsToMark_1 fl_mo_277 is_mo ?_
      rw [h1]
      refine V_aload_0 d_mo_dropsToMark_4 ?_
      refine V_getI d_mo_dropsToMark_5 fl_mo_283 is_mo ?_
      rw [hf _ _ (by decide) (by decide), hb]
      refine V_icmp_le 36 d_mo_dropsToMark_8 (by decide) (by omega) (by omega) (fun c8 => by omega) (fun c8 => ?_)
      refine V_aload_0 d_mo_dropsToMark_11 ?_
      refine V_aload_0 d_mo_dropsToMark_12 ?_
      refine V_getR d_mo_dropsToMark_13 fl_mo_124 is_mo r_mo_wait ?_
      refine V_aload_0 d_mo_dropsToMark_16 ?_
      refine V_getI d_mo_dropsToMark_17 fl_mo_277 is_mo ?_
      rw [h1]
      refine V_iconst 1 d_mo_dropsToMark_20 ?_
      refine V_isub d_mo_dropsToMark_21 ?_
      rw [show ((K ++ K0).length : Int) + 1 - 1 = (K ++ K0).length by omega]
      refine V_iald d_mo_dropsToMark_22 is_mo_wait (by omega) (by omega) ?_
      rw [h2]
      refine V_cvI1 d_mo_dropsToMark_23 ml_mo_350 mv_mo_isMark (by decide) (Nat.le_of_ble_eq_true rfl) is_mo (ok_isMark (by omega)) ?_
      rintro x23 f2 ⟨hx23, e2⟩
      rw [e2]; clear e2 f2
      refine V_if_ne 36 d_mo_dropsToMark_26 (by decide) (by rcases hx23 with h | h <;> omega) (fun c26 => ?_) (fun c26 => ?_)
      · skip
        refine V_return d_mo_dropsToMark_36 (hR _ ?_)
        refine ⟨hK', ?_, hf⟩
        rw [List.append_nil] at heq
        rw [← heq]; exact hL'
      · skip
        exact absurd hm (q_b0 hx23 c26)
    | cons x W ih =>
      intro L' F hV hK' hL' heq hn' hf
      have hK2 : wS F (x :: (W ++ (m :: K) ++ K0)) := hK'
      obtain ⟨h1, h2, h3⟩ := hK2.top
      have hxm := hV x (List.mem_cons_self ..)
      have hn2 : (L'.length : Int) + ((W ++ (m :: K) ++ K0).length + 1) ≤ 1600 := by
        simp only [List.cons_append, List.length_cons] at hn' ⊢
        push_cast at hn' ⊢; omega
      have hlen : ((W ++ (m :: K) ++ K0).length : Int) = W.length + (K.length + 1) + K0.length := by
        rw [List.length_append, List.length_append, List.length_cons]; push_cast; rfl
      refine V_aload_0 d_mo_dropsToMark_0 ?_
      refine V_getI d_mo_dropsToMark_1 fl_mo_277 is_mo ?_
      rw [h1]
      refine V_aload_0 d_mo_dropsToMark_4 ?_
      refine V_getI d_mo_dropsToMark_5 fl_mo_283 is_mo ?_
      rw [hf _ _ (by decide) (by decide), hb]
      refine V_icmp_le 36 d_mo_dropsToMark_8 (by decide) (by omega) (by omega) (fun c8 => by omega) (fun c8 => ?_)
      refine V_aload_0 d_mo_dropsToMark_11 ?_
      refine V_aload_0 d_mo_dropsToMark_12 ?_
      refine V_getR d_mo_dropsToMark_13 fl_mo_124 is_mo r_mo_wait ?_
      refine V_aload_0 d_mo_dropsToMark_16 ?_
      refine V_getI d_mo_dropsToMark_17 fl_mo_277 is_mo ?_
      rw [h1]
      refine V_iconst 1 d_mo_dropsToMark_20 ?_
      refine V_isub d_mo_dropsToMark_21 ?_
      rw [show ((W ++ (m :: K) ++ K0).length : Int) + 1 - 1 = (W ++ (m :: K) ++ K0).length by omega]
      refine V_iald d_mo_dropsToMark_22 is_mo_wait (by omega) (by omega) ?_
      rw [h2]
      refine V_cvI1 d_mo_dropsToMark_23 ml_mo_350 mv_mo_isMark (by decide) (Nat.le_of_ble_eq_true rfl) is_mo (ok_isMark (by omega)) ?_
      rintro x23 f2 ⟨hx23, e2⟩
      rw [e2]; clear e2 f2
      refine V_if_ne 36 d_mo_dropsToMark_26 (by decide) (by rcases hx23 with h | h <;> omega) (fun c26 => ?_) (fun c26 => ?_)
      · skip
        rw [q_b1 hx23 c26] at hxm; cases hxm
      · skip
        refine V_aload_0 d_mo_dropsToMark_29 ?_
        refine V_cvV0 d_mo_dropsToMark_30 ml_mo_353 mv_mo_drops (by decide) (Nat.le_of_ble_eq_true rfl) is_mo (ok_drops hK2 hL' (by omega) (by omega)) ?_
        rintro F2 ⟨k1, k2, k3⟩
        refine V_goto 0 d_mo_dropsToMark_33 (by decide) ?_
        refine ih (L' ++ [x]) F2 (fun y hy => hV y (List.mem_cons_of_mem _ hy)) k1 k2 (by rw [← heq]; simp) ?_ (fun j k a b => by rw [k3 j k a b]; exact hf j k a b)
        rw [List.length_append]
        simp only [List.length_cons, List.length_nil]
        push_cast; omega
  exact loop U L f hU hK hL rfl hn (fun _ _ _ _ => rfl)
theorem ok_opens {K L : List Int} {o w z : Int} (hR : mR f T N K L o p e) (ho : 0 ≤ o ∧ o ≤ 6) (hw : 0 ≤ w ∧ w ≤ 25) : OkV D m_mo_opens [vr D 219, vi w, vi z] (Zg g h) f (fun f' => (o < 6 ∧ wS f' (w :: K) ∧ f' 219 51 = o + 1 ∧ ∀ j k, ¬ j = 256 → ¬ (j = 219 ∧ (k = 50 ∨ k = 51)) → f' j k = f j k) ∨ (¬ o < 6 ∧ mpS f' T N (.inl (4, z)) ∧ mK f f')) := by
  have hrg := hR.rg
  obtain ⟨h1, h2, h3, h4, h5⟩ := hR
  have hl := h2.1
  refine OkV_of (L0 := [vr D 219, vi w, vi z]) mi_mo_opens rfl rfl (Nat.le_of_ble_eq_true rfl) (fun C hR => ?_)
  refine V_aload_0 d_mo_opens_0 ?_
  refine V_getI d_mo_opens_1 fl_mo_280 is_mo ?_
  rw [h4]
  refine V_bipush 6 d_mo_opens_4 (by decide) ?_
  refine V_icmp_ne 16 d_mo_opens_6 (by decide) (by omega) (by omega) (fun c6 => ?_) (fun c6 => ?_)
  · skip
    refine V_aload_0 d_mo_opens_16 ?_
    refine V_dup d_mo_opens_17 rfl ?_
    refine V_getI d_mo_opens_18 fl_mo_280 is_mo ?_
    rw [h4]
    refine V_iconst 1 d_mo_opens_21 ?_
    refine V_iadd d_mo_opens_22 ?_
    refine V_putI d_mo_opens_23 fl_mo_280 is_mo ?_
    refine V_aload_0 d_mo_opens_26 ?_
    refine V_getR d_mo_opens_27 fl_mo_124 is_mo r_mo_wait ?_
    refine V_aload_0 d_mo_opens_30 ?_
    refine V_getI d_mo_opens_31 fl_mo_277 is_mo ?_
    rw [q_up_ne (Or.inr (by decide)), hl]
    refine V_iload_1 d_mo_opens_34 ?_
    refine V_iast d_mo_opens_35 is_mo_wait (by omega) (by omega) ?_
    refine V_aload_0 d_mo_opens_36 ?_
    refine V_dup d_mo_opens_37 rfl ?_
    refine V_getI d_mo_opens_38 fl_mo_277 is_mo ?_
    rw [q_up_at (by decide), q_up_ne (Or.inr (by decide)), hl]
    refine V_iconst 1 d_mo_opens_41 ?_
    refine V_iadd d_mo_opens_42 ?_
    refine V_putI d_mo_opens_43 fl_mo_277 is_mo ?_
    refine V_return d_mo_opens_46 (hR _ ?_)
    refine Or.inl ⟨by omega, h2.push hw (q_up_eq _ _ _ _) (by rw [q_up_at (by decide), q_up_eq]) (fun k hk => by rw [q_up_at (by decide), q_up_ne (Or.inr hk), q_up_at (by decide)]), by rw [q_up_ne (Or.inr (by decide)), q_up_at (by decide), q_up_eq], fun j k a b => by rw [q_up_ne (by omega), q_up_at a, q_up_ne (by omega)]⟩
  · skip
    refine V_aload_0 d_mo_opens_9 ?_
    refine V_iconst 4 d_mo_opens_10 ?_
    refine V_iload_2 d_mo_opens_11 ?_
    refine V_cvV2 d_mo_opens_12 ml_mo_215 mv_mo_fail (by decide) (Nat.le_of_ble_eq_true rfl) is_mo (ok_mfail h1 (by decide)) ?_
    rintro F ⟨k1, k2⟩
    refine V_return d_mo_opens_15 (hR _ ?_)
    exact Or.inr ⟨by omega, k1, k2⟩
theorem ok_tkA (hT : mpS f T N (.inr (p, e))) (hw : mW f) (i : Nat) (hi : i < 25) {c : Int} (hc : c = 221 + (i : Int)) : OkI D m_mo_takes [vr D 219, vr D c] (Zg g h) f (fun x f' => mK f f' ∧ ((x = 1 ∧ wd T N p e = i ∧ mpS f' T N (.inr (sk T N (le T N p), le T N p))) ∨ (x = 0 ∧ ¬ wd T N p e = i ∧ mpS f' T N (.inr (p, e)) ∧ f' 219 2 = p))) := by
  subst hc
  refine (ok_takes hT hw hi).mn (fun x f' hx => ?_)
  obtain ⟨h1, h2, h3, h4⟩ := hx
  refine ⟨h3, ?_⟩
  rcases h1 with ⟨a, b⟩ | ⟨a, b⟩
  · left
    have hy : wd T N p e = i := of_decide_eq_true b
    have : tkw T N i (.inr (p, e)) = .inr (sk T N (le T N p), le T N p) := if_pos hy
    rw [this] at h2
    exact ⟨a, hy, h2⟩
  · right
    have hy : ¬ wd T N p e = i := fun h => b (decide_eq_true h)
    have : tkw T N i (.inr (p, e)) = .inr (p, e) := if_neg hy
    rw [this] at h2
    exact ⟨a, hy, h2, h4 b p e rfl⟩
theorem ok_askA {s : q_R (Int × Int)} (hT : mpS f T N s) (hw : mW f) (i : Nat) (hi : i < 25) {c : Int} (hc : c = 221 + (i : Int)) : OkV D m_mo_asks [vr D 219, vr D c] (Zg g h) f (fun f' => mpS f' T N (rb s (fun s => l_word T N i s.1 s.2)) ∧ mK f f') := by
  subst hc; exact ok_asks hT hw hi
theorem ok_hereA (hT : mpS f T N (.inr (p, e))) (hw : mW f) (i : Nat) (hi : i < 25) {c : Int} (hc : c = 221 + (i : Int)) : OkI D m_mo_isHere [vr D 219, vr D c] (Zg g h) f (fun x f' => ((x = 1 ∧ wd T N p e = i) ∨ (x = 0 ∧ ¬ wd T N p e = i)) ∧ f' = q_up f 219 2 p) := by
  subst hc; exact ok_isHere hT hw hi
/-- how the machine stands, at a part (b) or behind one -/
def mSt (f : q_F) (T : Int → Int) (N : Int) (b : Bool) (K0 : List Int) (o0 : Int) (n : Nat) (X : q_R (List Int × Int × Int)) : Prop := ∃ m K L o p e, m ≤ n ∧ mch T N m b K L o p e = some X ∧ mR f T N (K ++ K0) L o p e ∧ o = o0 + nMk K ∧ o ≤ 6
end RS2
