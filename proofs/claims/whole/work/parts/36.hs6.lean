/-! the class: hire, undo -/
def okRow (A : q_As) (t : Int → Int) : Prop := (∀ s, 0 ≤ s → s < A 0 4 0 → -1 ≤ t s ∧ t s < A 0 2 0) ∧ ∀ s u, 0 ≤ s → s < A 0 4 0 → 0 ≤ u → u < A 0 4 0 → t s = t u → 0 ≤ t s → can A s u = true
def A_push (A : q_As) (t : Int → Int) : q_As := A_hs A (if A 13 0 0 < 30 then A 13 0 0 + 1 else 30) t (fun n s => if n = 0 then A 11 s 0 else A 12 (n - 1) s)
abbrev canHire (A : q_As) (s sh : Int) : Prop := (0 ≤ s ∧ s < A 0 4 0) ∧ (-1 ≤ sh ∧ sh < A 0 2 0) ∧ ¬ A 11 s 0 = sh ∧ (sh = -1 ∨ mB (fun t => held A sh t && !can A s t) = 0)
def S_hire (A : q_As) (s sh : Int) : Int := if canHire A s sh then 1 else 0
def A_hire (A : q_As) (s sh : Int) : q_As := if canHire A s sh then A_push A (fun t => if t = s then sh else A 11 t 0) else A
def S_undo (A : q_As) : Int := if A 13 0 0 = 0 then 0 else 1
def A_undo (A : q_As) : q_As := if A 13 0 0 = 0 then A else A_hs A (A 13 0 0 - 1) (fun s => A 12 0 s) (fun n s => A 12 (n + 1) s)
section HS6
variable {D : q_D} {f f' : q_F} {A : q_As} {g h : Int}
theorem W_hs (hF : Wf A) {n : Int} {t : Int → Int} {u : Int → Int → Int} (hn : 0 ≤ n ∧ n ≤ 30) (ht : okRow A t) (hu : ∀ i, 0 ≤ i → i < n → okRow A (u i)) : Wf (A_hs A n t u) := by
  obtain ⟨h1, h2, h3⟩ := hF
  have hg : gEq A (A_hs A n t u) := A_hs_g n t u
  refine ⟨h1.mono hg, ?_, ?_⟩
  · unfold Wh
    rw [hg.cn, hg.1]
    simp only [A_hs_13, A_hs_11, A_hs_12]
    exact ⟨ht.1, ht.2, hn, hu⟩
  · unfold Wt
    simp only [A_hs_13, show ∀ i, A_hs A n t u 14 i 0 = A 14 i 0 from fun _ => rfl, show ∀ i, A_hs A n t u 15 i 0 = A 15 i 0 from fun _ => rfl]
    exact h3
theorem Wh.row0 (h : Wh A) : okRow A (fun s => A 11 s 0) := ⟨h.1, h.2.1⟩
theorem Wh.row (h : Wh A) {n : Int} (h0 : 0 ≤ n) (h1 : n < A 13 0 0) : okRow A (A 12 n) := h.2.2.2 n h0 h1
theorem W_push (hF : Wf A) {t : Int → Int} (ht : okRow A t) : Wf (A_push A t) := by
  have hb := hF.2.1.2.2.1
  refine W_hs hF (by split <;> omega) ht (fun i i0 i1 => ?_)
  by_cases e : i = 0
  · simp only [if_pos e]; exact hF.2.1.row0
  · simp only [if_neg e]; exact hF.2.1.row (by omega) (by split at i1 <;> omega)
theorem hire_row (hF : Wf A) {s sh : Int} (hc : canHire A s sh) : okRow A (fun t => if t = s then sh else A 11 t 0) := by
  have hn := hF.nn
  obtain ⟨hs, hh, hne, hm⟩ := hc
  have h1 := hF.2.1.1
  refine ⟨fun t t0 t1 => ?_, fun t u t0 t1 u0 u1 e e0 => ?_⟩
  · dsimp only
    split
    · exact hh
    · exact h1 t t0 t1
  · have key : ∀ u, 0 ≤ u → u < A 0 4 0 → A 11 u 0 = sh → 0 ≤ sh → can A s u = true := by
      intro u u0 u1 eu hsh
      rcases hm with hm | hm
      · omega
      · have := (mB_is0 _).mp hm u u0 (by omega)
        have hh : held A sh u = true := by unfold held; simp [eu, u1]
        rw [hh] at this; simpa using this
    dsimp only at e e0
    by_cases et : t = s
    · rw [if_pos et] at e e0
      by_cases eu : u = s
      · rw [et, eu]; exact can_refl hF.1 hs
      · rw [if_neg eu] at e; rw [et]; exact key u u0 u1 e.symm e0
    · rw [if_neg et] at e e0
      by_cases eu : u = s
      · rw [if_pos eu] at e; rw [eu, can_symm hF.1 ⟨t0, t1⟩ hs]; exact key t t0 t1 e (by omega)
      · rw [if_neg eu] at e; exact hF.2.1.2.1 t u t0 t1 u0 u1 e e0
theorem W_hire (hF : Wf A) (s sh : Int) : Wf (A_hire A s sh) := by
  unfold A_hire
  split
  · next hc => exact W_push hF (hire_row hF hc)
  · exact hF
theorem W_undo (hF : Wf A) : Wf (A_undo A) := by
  have hb := hF.2.1.2.2.1
  unfold A_undo
  split
  · exact hF
  · exact W_hs hF (by omega) (hF.2.1.row (by decide) (by omega)) (fun i i0 i1 => hF.2.1.row (by omega) (by omega))
/-- hires alone differ -/
theorem Cst.hires (hS : Cst g f A) (hF : Wf A) {n : Int} {t : Int → Int} {u : Int → Int → Int} (hf : ∀ j k, ¬ (10 ≤ j ∧ j < 43) → f' j k = f j k) (h1 : ∀ s, 0 ≤ s → s < A 0 4 0 → f' 11 s = t s) (h2 : f' 10 3 = n) (h3 : 0 ≤ f' 10 2 ∧ f' 10 2 < 30) (h4 : ∀ i s, 0 ≤ i → i < n → 0 ≤ s → s < A 0 4 0 → f' (13 + (f' 10 2 + n - 1 - i) % 30) s = u i s) : Cst g f' (A_hs A n t u) := by
  obtain ⟨hg, hG, hH, hT⟩ := hS
  have hg2 := q_G51 hg
  refine ⟨hg, hG.mono (A_hs_g n t u) hF.1 (fun j k a b => hf j k (by omega)), ?_, ?_⟩
  · unfold Ch
    simp only [A_hs_13, A_hs_11, A_hs_12]
    exact ⟨h1, h2, h3, h4⟩
  · obtain ⟨c1, c2, c3, c4, c5, c6, c7⟩ := hT
    unfold Ct
    simp only [A_hs_13, show ∀ i, A_hs A n t u 14 i 0 = A 14 i 0 from fun _ => rfl, show ∀ i, A_hs A n t u 15 i 0 = A 15 i 0 from fun _ => rfl]
    exact ⟨by rw [hf _ _ (by omega)]; exact c1, fun k a b => by rw [hf _ _ (by omega)]; exact c2 k a b, by rw [hf _ _ (by omega)]; exact c3, by rw [hf _ _ (by omega)]; exact c4, by rw [hf _ _ (by omega)]; exact c5, by rw [hf _ _ (by omega)]; exact c6, fun k a b => by rw [hf _ _ (by omega)]; exact c7 k a b⟩
theorem mB_rg2 (p : Int → Bool) : -2147483648 ≤ mB p ∧ mB p < 2147483648 := by have := mB_rg p; omega
theorem heldcan (sh s : Int) : mB (fun t => held A sh t && !(decide (t < A 0 4 0) && can A s t)) = mB (fun t => held A sh t && !can A s t) := by
  refine mB_eq (fun t h0 h1 => ?_)
  cases ht : held A sh t
  · rfl
  · simp [(show t < A 0 4 0 by unfold held at ht; simp at ht; omega)]
theorem q_cp_ne {q r j k : Int} (h : ¬ j = r) : q_cp f q r j k = f j k := by unfold q_cp; rw [if_neg (fun e => h e.1)]
theorem q_cp_eq {q r k : Int} (h : 0 ≤ k ∧ k < 24) : q_cp f q r r k = f q k := by unfold q_cp; rw [if_pos ⟨rfl, h⟩]
/-- an act is kept -/
def q_kept (f f' : q_F) (A : q_As) : Prop := (∀ j k, ¬ (10 ≤ j ∧ j < 43) → f' j k = f j k) ∧ (∀ s, f' 11 s = f 11 s) ∧ f' 10 3 = (if A 13 0 0 < 30 then A 13 0 0 + 1 else 30) ∧ (0 ≤ f' 10 2 ∧ f' 10 2 < 30) ∧
  ∀ i s, 0 ≤ i → i < (if A 13 0 0 < 30 then A 13 0 0 + 1 else 30) → 0 ≤ s → s < A 0 4 0 → f' (13 + (f' 10 2 + (if A 13 0 0 < 30 then A 13 0 0 + 1 else 30) - 1 - i) % 30) s = (if i = 0 then A 11 s 0 else A 12 (i - 1) s)
theorem ok_remember (hH : Ch f A) (hF : Wf A) : OkV D m_hi_remember [vr D 10] (Zg g h) f (fun f' => q_kept f f' A) := by
  have hn := hF.nn
  have hb := hF.2.1.2.2.1
  obtain ⟨c1, c2, c3, c4⟩ := hH
  generalize ho : f 10 2 = o at *
  refine OkV_of (L0 := [vr D 10, vu]) mi_hi_remember rfl rfl (Nat.le_of_ble_eq_true rfl) (fun C hR => ?_)
  refine V_aload_0 d_hi_remember_0 ?_
  refine V_getI d_hi_remember_1 fl_hi_27 is_hi ?_
  rw [ho]
  refine V_aload_0 d_hi_remember_4 ?_
  refine V_getI d_hi_remember_5 fl_hi_23 is_hi ?_
  rw [c2]
  refine V_iadd d_hi_remember_8 ?_
  refine V_bipush 30 d_hi_remember_9 (by decide) ?_
  refine V_irem d_hi_remember_11 (by omega) (by omega) ?_
  refine V_istore_1 d_hi_remember_12 rfl ?_
  refine V_aload_0 d_hi_remember_13 ?_
  refine V_getR d_hi_remember_14 fl_hi_9 is_hi r_hi_shadeOf ?_
  refine V_iconst 0 d_hi_remember_17 ?_
  refine V_aload_0 d_hi_remember_18 ?_
  refine V_getR d_hi_remember_19 fl_hi_17 is_hi r_hi_ahead ?_
  refine V_iload_1 d_hi_remember_22 ?_
  refine V_aald d_hi_remember_23 is_hi_ahead (by omega) (by omega) (r_hi_aheadrow (by omega)) ?_
  refine V_iconst 0 d_hi_remember_24 ?_
  refine V_bipush 24 d_hi_remember_25 (by decide) ?_
  refine V_acopy rfl (by decide) d_hi_remember_27 is_hi_shadeOf (is_hi_ahead_row (by omega)) ?_
  refine V_aload_0 d_hi_remember_30 ?_
  refine V_getI d_hi_remember_31 fl_hi_23 is_hi ?_
  rw [q_cp_ne (by omega), c2]
  refine V_bipush 30 d_hi_remember_34 (by decide) ?_
  refine V_icmp_ge 52 d_hi_remember_36 (by decide) (by omega) (by omega) (fun c36 => ?_) (fun c36 => ?_)
  · skip
    refine V_aload_0 d_hi_remember_52 ?_
    refine V_aload_0 d_hi_remember_53 ?_
    refine V_getI d_hi_remember_54 fl_hi_27 is_hi ?_
    rw [q_cp_ne (by omega), ho]
    refine V_iconst 1 d_hi_remember_57 ?_
    refine V_iadd d_hi_remember_58 ?_
    refine V_bipush 30 d_hi_remember_59 (by decide) ?_
    refine V_irem d_hi_remember_61 (by omega) (by omega) ?_
    refine V_putI d_hi_remember_62 fl_hi_27 is_hi ?_
    refine V_return d_hi_remember_65 (hR _ ?_)
    have e30 : A 13 0 0 = 30 := by omega
    unfold q_kept
    rw [if_neg (by omega)]
    refine ⟨fun j k hj => ?_, fun s => ?_, ?_, ?_, fun i s i0 i1 s0 s1 => ?_⟩
    · rw [q_up_at (by omega), q_cp_ne (by omega)]
    · rw [q_up_at (by decide), q_cp_ne (by omega)]
    · rw [q_up_ne (Or.inr (by decide)), q_cp_ne (by omega), c2, e30]
    · rw [q_up_eq]; omega
    · rw [q_up_eq, q_up_at (by omega)]
      by_cases e : i = 0
      · rw [if_pos e, show 13 + ((o + 1) % 30 + 30 - 1 - i) % 30 = 13 + (o + A 13 0 0) % 30 by omega, q_cp_eq (by omega)]; exact c1 s s0 s1
      · rw [if_neg e, q_cp_ne (by omega), ← c4 (i - 1) s (by omega) (by omega) s0 s1, show ((o + 1) % 30 + 30 - 1 - i) % 30 = (o + A 13 0 0 - 1 - (i - 1)) % 30 by omega]
  · skip
    refine V_aload_0 d_hi_remember_39 ?_
    refine V_dup d_hi_remember_40 rfl ?_
    refine V_getI d_hi_remember_41 fl_hi_23 is_hi ?_
    rw [q_cp_ne (by omega), c2]
    refine V_iconst 1 d_hi_remember_44 ?_
    refine V_iadd d_hi_remember_45 ?_
    refine V_putI d_hi_remember_46 fl_hi_23 is_hi ?_
    refine V_goto 65 d_hi_remember_49 (by decide) ?_
    refine V_return d_hi_remember_65 (hR _ ?_)
    unfold q_kept
    rw [if_pos (by omega)]
    refine ⟨fun j k hj => ?_, fun s => ?_, ?_, ?_, fun i s i0 i1 s0 s1 => ?_⟩
    · rw [q_up_at (by omega), q_cp_ne (by omega)]
    · rw [q_up_at (by decide), q_cp_ne (by omega)]
    · rw [q_up_eq]
    · rw [q_up_ne (Or.inr (by decide)), q_cp_ne (by omega), ho]; exact c3
    · rw [q_up_ne (a := 10) (b := 2) (Or.inr (by decide)), q_cp_ne (j := 10) (by omega), ho, q_up_at (by omega)]
      by_cases e : i = 0
      · rw [if_pos e, show 13 + (o + (A 13 0 0 + 1) - 1 - i) % 30 = 13 + (o + A 13 0 0) % 30 by omega, q_cp_eq (by omega)]; exact c1 s s0 s1
      · rw [if_neg e, q_cp_ne (by omega), ← c4 (i - 1) s (by omega) (by omega) s0 s1, show (o + (A 13 0 0 + 1) - 1 - i) % 30 = (o + A 13 0 0 - 1 - (i - 1)) % 30 by omega]
theorem hs_hire (hS : Cst g f A) (hF : Wf A) {s sh : Int} (hs : -2147483648 ≤ s ∧ s < 2147483648) (hh : -2147483648 ≤ sh ∧ sh < 2147483648) : OkI D m_hs_hire [vr D 0, vi s, vi sh] (Zg g h) f (fun x f' => x = S_hire A s sh ∧ Cst g f' (A_hire A s sh) ∧ q_lo f f') := by
  have hn := hF.nn
  have hS' := hS
  obtain ⟨hg, hG, hH, hT⟩ := hS'
  have hno : ¬ canHire A s sh → 0 = S_hire A s sh ∧ Cst g f (A_hire A s sh) ∧ q_lo f f := fun h => by
    unfold S_hire A_hire; rw [if_neg h, if_neg h]; exact ⟨rfl, hS, q_lo.refl _⟩
  refine OkB_of (L0 := [vr D 0, vi s, vi sh]) mi_hs_hire rfl rfl (Nat.le_of_ble_eq_true rfl) (fun C hR => ?_)
  have done : canHire A s sh → ∀ f', q_kept f f' A → (1 : Int) = S_hire A s sh ∧ Cst g (q_up f' 11 s sh) (A_hire A s sh) ∧ q_lo f (q_up f' 11 s sh) := by
    rintro hc f' ⟨k1, k2, k3, k4, k5⟩
    unfold S_hire A_hire; rw [if_pos hc, if_pos hc]
    refine ⟨rfl, hS.hires hF (fun j k hj => ?_) (fun t t0 t1 => ?_) ?_ ?_ (fun i t i0 i1 t0 t1 => ?_), fun j k hj => ?_⟩
    · rw [q_up_at (by omega)]; exact k1 j k hj
    · by_cases e : t = s
      · rw [e, if_pos rfl, q_up_eq]
      · rw [if_neg e, q_up_ne (Or.inr e), k2]; exact hH.1 t t0 t1
    · rw [q_up_at (by decide)]; exact k3
    · rw [q_up_at (by decide)]; exact k4
    · rw [q_up_at (a := 10) (by decide), q_up_at (by omega)]; exact k5 i t i0 i1 t0 t1
    · rw [q_up_at (by omega)]; exact k1 j k (by omega)
  refine V_aload_0 d_hs_hire_0 ?_
  refine V_iload_1 d_hs_hire_1 ?_
  refine V_cvI1 d_hs_hire_2 ml_hs_136 mv_hs_isSighting (by decide) (Nat.le_of_ble_eq_true rfl) is_hs (ok_isSighting hS hF hs) ?_
  rintro x2 f2 ⟨hx2, e2⟩
  rw [e2]; clear e2 f2
  refine V_if_eq 21 d_hs_hire_5 (by decide) (by omega) (fun c5 => ?_) (fun c5 => ?_)
  · skip
    refine V_iconst 0 d_hs_hire_21 ?_
    refine V_ireturn d_hs_hire_22 (hR _ _ (by decide) ?_)
    exact hno (fun hc => by omega)
  · skip
    refine V_iload_2 d_hs_hire_8 ?_
    refine V_iconst (-1) d_hs_hire_9 ?_
    refine V_icmp_eq 23 d_hs_hire_10 (by decide) (by omega) (by omega) (fun c10 => ?_) (fun c10 => ?_)
    · skip
      have e11 := hH.at hF.2.1 (s := s) (by omega) (by omega)
      refine V_aload_0 d_hs_hire_23 ?_
      refine V_getR d_hs_hire_24 fl_hs_28 is_hs r_hs_hires ?_
      refine V_getR d_hs_hire_27 fl_hs_143 is_hi r_hi_shadeOf ?_
      refine V_iload_1 d_hs_hire_30 ?_
      refine V_iald d_hs_hire_31 is_hi_shadeOf (by omega) (by omega) ?_
      rw [e11.1]
      refine V_iload_2 d_hs_hire_32 ?_
      refine V_icmp_ne 38 d_hs_hire_33 (by decide) (by omega) (by omega) (fun c33 => ?_) (fun c33 => ?_)
      · skip
        refine V_iload_2 d_hs_hire_38 ?_
        refine V_iconst (-1) d_hs_hire_39 ?_
        refine V_icmp_eq 65 d_hs_hire_40 (by decide) (by omega) (by omega) (fun c40 => ?_) (fun c40 => by omega)
        refine V_aload_0 d_hs_hire_65 ?_
        refine V_getR d_hs_hire_66 fl_hs_28 is_hs r_hs_hires ?_
        refine V_cvV0 d_hs_hire_69 ml_hs_200 mv_hi_remember (by decide) (Nat.le_of_ble_eq_true rfl) is_hi (ok_remember hH hF) ?_
        rintro f' hk
        refine V_aload_0 d_hs_hire_72 ?_
        refine V_getR d_hs_hire_73 fl_hs_28 is_hs r_hs_hires ?_
        refine V_getR d_hs_hire_76 fl_hs_143 is_hi r_hi_shadeOf ?_
        refine V_iload_1 d_hs_hire_79 ?_
        refine V_iload_2 d_hs_hire_80 ?_
        refine V_iast d_hs_hire_81 is_hi_shadeOf (by omega) (by omega) ?_
        refine V_iconst 1 d_hs_hire_82 ?_
        refine V_ireturn d_hs_hire_83 (hR _ _ (by decide) ?_)
        refine done ⟨by omega, by omega, fun e => c33 (by omega), ?_⟩ _ hk
        first | exact Or.inl (by omega) | exact Or.inr c60
      · skip
        refine V_iconst 0 d_hs_hire_36 ?_
        refine V_ireturn d_hs_hire_37 (hR _ _ (by decide) ?_)
        exact hno (fun hc => hc.2.2.1 (by omega))
    · skip
      refine V_aload_0 d_hs_hire_13 ?_
      refine V_iload_2 d_hs_hire_14 ?_
      refine V_cvI1 d_hs_hire_15 ml_hs_149 mv_hs_isShade (by decide) (Nat.le_of_ble_eq_true rfl) is_hs (ok_isShade hS hF hh) ?_
      rintro x15 f2 ⟨hx15, e2⟩
      rw [e2]; clear e2 f2
      refine V_if_ne 23 d_hs_hire_18 (by decide) (by omega) (fun c18 => ?_) (fun c18 => ?_)
      · skip
        have e11 := hH.at hF.2.1 (s := s) (by omega) (by omega)
        refine V_aload_0 d_hs_hire_23 ?_
        refine V_getR d_hs_hire_24 fl_hs_28 is_hs r_hs_hires ?_
        refine V_getR d_hs_hire_27 fl_hs_143 is_hi r_hi_shadeOf ?_
        refine V_iload_1 d_hs_hire_30 ?_
        refine V_iald d_hs_hire_31 is_hi_shadeOf (by omega) (by omega) ?_
        rw [e11.1]
        refine V_iload_2 d_hs_hire_32 ?_
        refine V_icmp_ne 38 d_hs_hire_33 (by decide) (by omega) (by omega) (fun c33 => ?_) (fun c33 => ?_)
        · skip
          refine V_iload_2 d_hs_hire_38 ?_
          refine V_iconst (-1) d_hs_hire_39 ?_
          refine V_icmp_eq 65 d_hs_hire_40 (by decide) (by omega) (by omega) (fun c40 => by omega) (fun c40 => ?_)
          refine V_aload_0 d_hs_hire_43 ?_
          refine V_iload_2 d_hs_hire_44 ?_
          refine V_cvI1 d_hs_hire_45 ml_hs_168 mv_hs_heldBy (by decide) (Nat.le_of_ble_eq_true rfl) is_hs (ok_heldBy hS hF hh) ?_
          rintro _ f2 ⟨rfl, e2⟩
          rw [e2]; clear e2 f2
          refine V_aload_0 d_hs_hire_48 ?_
          refine V_getR d_hs_hire_49 fl_hs_57 is_hs (r_hs_now hg) ?_
          refine V_getR d_hs_hire_52 fl_hs_171 (is_gd hg) (r_gd_meets hg) ?_
          refine V_iload_1 d_hs_hire_55 ?_
          refine V_iald d_hs_hire_56 (is_gd_meets hg) (by omega) (by omega) ?_
          rw [hG.mt (by omega) (by omega)]
          refine V_iconst (-1) d_hs_hire_57 ?_
          refine V_ixor d_hs_hire_58 ?_
          refine V_iand d_hs_hire_59 ?_
          rw [mB_andn, heldcan]
          refine V_if_eq 65 d_hs_hire_60 (by decide) (mB_rg2 _) (fun c60 => ?_) (fun c60 => ?_)
          · skip
            refine V_aload_0 d_hs_hire_65 ?_
            refine V_getR d_hs_hire_66 fl_hs_28 is_hs r_hs_hires ?_
            refine V_cvV0 d_hs_hire_69 ml_hs_200 mv_hi_remember (by decide) (Nat.le_of_ble_eq_true rfl) is_hi (ok_remember hH hF) ?_
            rintro f' hk
            refine V_aload_0 d_hs_hire_72 ?_
            refine V_getR d_hs_hire_73 fl_hs_28 is_hs r_hs_hires ?_
            refine V_getR d_hs_hire_76 fl_hs_143 is_hi r_hi_shadeOf ?_
            refine V_iload_1 d_hs_hire_79 ?_
            refine V_iload_2 d_hs_hire_80 ?_
            refine V_iast d_hs_hire_81 is_hi_shadeOf (by omega) (by omega) ?_
            refine V_iconst 1 d_hs_hire_82 ?_
            refine V_ireturn d_hs_hire_83 (hR _ _ (by decide) ?_)
            refine done ⟨by omega, by omega, fun e => c33 (by omega), ?_⟩ _ hk
            first | exact Or.inl (by omega) | exact Or.inr c60
          · skip
            refine V_iconst 0 d_hs_hire_63 ?_
            refine V_ireturn d_hs_hire_64 (hR _ _ (by decide) ?_)
            exact hno (fun hc => hc.2.2.2.elim (fun e => c40 e) c60)
        · skip
          refine V_iconst 0 d_hs_hire_36 ?_
          refine V_ireturn d_hs_hire_37 (hR _ _ (by decide) ?_)
          exact hno (fun hc => hc.2.2.1 (by omega))
      · skip
        refine V_iconst 0 d_hs_hire_21 ?_
        refine V_ireturn d_hs_hire_22 (hR _ _ (by decide) ?_)
        exact hno (fun hc => by omega)
theorem hs_undo (hS : Cst g f A) (hF : Wf A) : OkI D m_hs_undo [vr D 0] (Zg g h) f (fun x f' => x = S_undo A ∧ Cst g f' (A_undo A) ∧ q_lo f f') := by
  have hn := hF.nn
  have hS' := hS
  obtain ⟨hg, hG, hH, hT⟩ := hS'
  have hb := hF.2.1.2.2.1
  have tb : OkI D m_hi_takeBack [vr D 10] (Zg g h) f (fun x f' => (x = S_undo A ∧ 0 ≤ x ∧ x ≤ 1) ∧ Cst g f' (A_undo A) ∧ q_lo f f') := by
    obtain ⟨k1, k2, k3, k4⟩ := hH
    generalize ho : f 10 2 = o at *
    refine OkB_of (L0 := [vr D 10, vu]) mi_hi_takeBack rfl rfl (Nat.le_of_ble_eq_true rfl) (fun C hR => ?_)
    refine V_aload_0 d_hi_takeBack_0 ?_
    refine V_getI d_hi_takeBack_1 fl_hi_23 is_hi ?_
    rw [k2]
    refine V_if_ne 9 d_hi_takeBack_4 (by decide) (by omega) (fun c4 => ?_) (fun c4 => ?_)
    · skip
      refine V_aload_0 d_hi_takeBack_9 ?_
      refine V_dup d_hi_takeBack_10 rfl ?_
      refine V_getI d_hi_takeBack_11 fl_hi_23 is_hi ?_
      rw [k2]
      refine V_iconst 1 d_hi_takeBack_14 ?_
      refine V_isub d_hi_takeBack_15 ?_
      refine V_putI d_hi_takeBack_16 fl_hi_23 is_hi ?_
      refine V_aload_0 d_hi_takeBack_19 ?_
      refine V_getI d_hi_takeBack_20 fl_hi_27 is_hi ?_
      rw [q_up_ne (Or.inr (by decide)), ho]
      refine V_aload_0 d_hi_takeBack_23 ?_
      refine V_getI d_hi_takeBack_24 fl_hi_23 is_hi ?_
      rw [q_up_eq]
      refine V_iadd d_hi_takeBack_27 ?_
      refine V_bipush 30 d_hi_takeBack_28 (by decide) ?_
      refine V_irem d_hi_takeBack_30 (by omega) (by omega) ?_
      refine V_istore_1 d_hi_takeBack_31 rfl ?_
      refine V_aload_0 d_hi_takeBack_32 ?_
      refine V_getR d_hi_takeBack_33 fl_hi_17 is_hi r_hi_ahead ?_
      refine V_iload_1 d_hi_takeBack_36 ?_
      refine V_aald d_hi_takeBack_37 is_hi_ahead (by omega) (by omega) (r_hi_aheadrow (by omega)) ?_
      refine V_iconst 0 d_hi_takeBack_38 ?_
      refine V_aload_0 d_hi_takeBack_39 ?_
      refine V_getR d_hi_takeBack_40 fl_hi_9 is_hi r_hi_shadeOf ?_
      refine V_iconst 0 d_hi_takeBack_43 ?_
      refine V_bipush 24 d_hi_takeBack_44 (by decide) ?_
      refine V_acopy rfl (by decide) d_hi_takeBack_46 (is_hi_ahead_row (by omega)) is_hi_shadeOf ?_
      refine V_iconst 1 d_hi_takeBack_49 ?_
      refine V_ireturn d_hi_takeBack_50 (hR _ _ (by decide) ?_)
      unfold S_undo A_undo; rw [if_neg (by omega), if_neg (by omega)]
      refine ⟨⟨rfl, by decide⟩, hS.hires hF (fun j k hj => ?_) (fun s s0 s1 => ?_) ?_ ?_ (fun i s i0 i1 s0 s1 => ?_), fun j k hj => ?_⟩
      · rw [q_cp_ne (by omega), q_up_at (by omega)]
      · rw [q_cp_eq (by omega), q_up_at (by omega), ← k4 0 s (by decide) (by omega) s0 s1, show (o + (A 13 0 0 - 1)) % 30 = (o + A 13 0 0 - 1 - 0) % 30 by omega]
      · rw [q_cp_ne (by omega), q_up_eq]
      · rw [q_cp_ne (by omega), q_up_ne (Or.inr (by decide)), ho]; exact k3
      · rw [q_cp_ne (j := 10) (by omega), q_up_ne (a := 10) (b := 2) (Or.inr (by decide)), ho, q_cp_ne (by omega), q_up_at (by omega), ← k4 (i + 1) s (by omega) (by omega) s0 s1, show (o + (A 13 0 0 - 1) - 1 - i) % 30 = (o + A 13 0 0 - 1 - (i + 1)) % 30 by omega]
      · rw [q_cp_ne (by omega), q_up_at (by omega)]
    · skip
      refine V_iconst 0 d_hi_takeBack_7 ?_
      refine V_ireturn d_hi_takeBack_8 (hR _ _ (by decide) ?_)
      unfold S_undo A_undo; rw [if_pos (by omega), if_pos (by omega)]
      exact ⟨⟨rfl, by decide⟩, hS, q_lo.refl _⟩
  refine OkB_of (L0 := [vr D 0]) mi_hs_undo rfl rfl (Nat.le_of_ble_eq_true rfl) (fun C hR => ?_)
  refine V_aload_0 d_hs_undo_0 ?_
  refine V_getR d_hs_undo_1 fl_hs_28 is_hs r_hs_hires ?_
  refine V_cvI0 d_hs_undo_4 ml_hs_203 mv_hi_takeBack (by decide) (Nat.le_of_ble_eq_true rfl) is_hi (tb) ?_
  rintro x f' ⟨⟨h1, h2⟩, h3, h4⟩
  refine V_ireturn d_hs_undo_7 (hR _ _ (by omega) ?_)
  exact ⟨h1, h3, h4⟩
end HS6
