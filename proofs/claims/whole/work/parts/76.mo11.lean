/-! the reference: the next body -/
/-- the first body from b on (m at most) that can have the i-th one -/
def nxN (A : q_As) (c a : Int → Int) (l : Int) (i : Nat) : Nat → Int → Int
  | 0, b => b
  | m + 1, b => if vd (okS A c l) (smS A c) (cmS A c) (bdy A b) i a then b else nxN A c a l i m (b + 1)
section MO11
variable {D : q_D} {f f' : q_F} {A : q_As} {g h : Int}
/-- the row's places and what the bodies have of the first i -/
def q_bod (f : q_F) (A : q_As) (c a : Int → Int) (n i : Nat) : Prop := (∀ k : Int, 0 ≤ k → k < n → f 269 k = c k) ∧ (∀ b : Int, 0 ≤ b → b < A 0 2 0 → f 271 b = mB (hsS A c a i b)) ∧ ∀ b : Int, 0 ≤ b → b < A 0 1 0 → f 271 (5 + b) = mB (hsP A c a i b)
theorem ok_canHave (hG : Mg f A) (hF : Wf A) {c a : Int → Int} {n i : Nat} (hq : q_bod f A c a n i) (hin : i < n) (n8 : n ≤ 8) (hc : ∀ k : Int, 0 ≤ k → k < n → 0 ≤ c k ∧ c k < A 0 4 0) {b l : Int} (hb : f 270 i = b) (hbr : 0 ≤ b ∧ b ≤ A 0 2 0) (hl : -2147483648 ≤ l ∧ l < 2147483648) : OkI D m_mo_canHave [vr D 219, vi i, vi l] (Zg g h) f (fun x f' => ((x = 1 ∧ vd (okS A c l) (smS A c) (cmS A c) (bdy A b) i a = true) ∨ (x = 0 ∧ ¬ vd (okS A c l) (smS A c) (cmS A c) (bdy A b) i a = true)) ∧ f' = f) := by
  have hn := hF.nn
  obtain ⟨q1, q2, q3⟩ := hq
  have ei := q1 i (by omega) (by omega)
  have bc := hc i (by omega) (by omega)
  have em := hG.mt bc.1 bc.2
  have bp := (hG.sg hF.1 bc.1 bc.2).2.1
  have eH : f 271 (if b < A 0 2 0 then b else 5 + A 7 (c i) 0) = mB (fun t => if b < A 0 2 0 then hsS A c a i b t else hsP A c a i (A 7 (c i) 0) t) := by
    by_cases e : b < A 0 2 0
    · simp only [if_pos e]; exact q2 b hbr.1 e
    · simp only [if_neg e]; exact q3 _ bp.1 bp.2
  have hv : 0 ≤ (if b < A 0 2 0 then b else 5 + A 7 (c i) 0) ∧ (if b < A 0 2 0 then b else 5 + A 7 (c i) 0) < 13 := by split <;> omega
  generalize hvv : (if b < A 0 2 0 then b else 5 + A 7 (c i) 0) = v at *
  refine OkB_of (L0 := [vr D 219, vi i, vi l, vu]) mi_mo_canHave rfl rfl (Nat.le_of_ble_eq_true rfl) (fun C hR => ?_)
  refine V_aload_0 d_mo_canHave_0 ?_
  refine V_getR d_mo_canHave_1 fl_mo_163 is_mo r_mo_open0 ?_
  refine V_iload_1 d_mo_canHave_4 ?_
  refine V_iald d_mo_canHave_5 is_mo_open0 (by omega) (by omega) ?_
  rw [ei]
  refine V_istore_3 d_mo_canHave_6 rfl ?_
  refine V_aload_0 d_mo_canHave_7 ?_
  refine V_getR d_mo_canHave_8 fl_mo_166 is_mo r_mo_body ?_
  refine V_iload_1 d_mo_canHave_11 ?_
  refine V_iald d_mo_canHave_12 is_mo_body (by omega) (by omega) ?_
  rw [hb]
  refine V_aload_0 d_mo_canHave_13 ?_
  refine V_cvI0 d_mo_canHave_14 ml_mo_419 mv_mo_shadeMany (by decide) (Nat.le_of_ble_eq_true rfl) is_mo (ok_shadeMany hG) ?_
  rintro _ f2 ⟨rfl, e2⟩
  rw [e2]; clear e2 f2
  refine V_icmp_ge 42 d_mo_canHave_17 (by decide) (by omega) (by omega) (fun c17 => ?_) (fun c17 => ?_)
  · skip
    refine V_aload_0 d_mo_canHave_42 ?_
    refine V_getR d_mo_canHave_43 fl_mo_169 is_mo r_mo_bodyHas ?_
    refine V_aload_0 d_mo_canHave_46 ?_
    refine V_iload_1 d_mo_canHave_47 ?_
    refine V_cvI1 d_mo_canHave_48 ml_mo_494 mv_mo_hasOf (by decide) (Nat.le_of_ble_eq_true rfl) is_mo (ok_hasOf hG hF.1 (by omega) hb (by omega) ei bc) ?_
    rintro _ f2 ⟨rfl, e2⟩
    rw [e2]; clear e2 f2
    rw [hvv]
    refine V_iald d_mo_canHave_51 is_mo_bodyHas (by omega) (by omega) ?_
    rw [eH]
    refine V_aload_0 d_mo_canHave_52 ?_
    refine V_getR d_mo_canHave_53 fl_mo_151 is_mo r_mo_with ?_
    refine V_iload_3 d_mo_canHave_56 ?_
    refine V_iald d_mo_canHave_57 is_mo_with (by omega) (by omega) ?_
    rw [em]
    refine V_iconst (-1) d_mo_canHave_58 ?_
    refine V_ixor d_mo_canHave_59 ?_
    refine V_iand d_mo_canHave_60 ?_
    rw [mB_andn]
    refine V_if_ne 68 d_mo_canHave_61 (by decide) (mB_rg2 _) (fun c61 => ?_) (fun c61 => ?_)
    · skip
      refine V_iconst 0 d_mo_canHave_68 ?_
      refine V_ireturn d_mo_canHave_69 (hR _ _ (by decide) ?_)
      exact ⟨Or.inr ⟨rfl, fun e => c61 ((has_vd hF hin hc hbr (fun e2 => by omega)).mpr e)⟩, rfl⟩
    · skip
      refine V_iconst 1 d_mo_canHave_64 ?_
      refine V_goto 69 d_mo_canHave_65 (by decide) ?_
      refine V_ireturn d_mo_canHave_69 (hR _ _ (by decide) ?_)
      exact ⟨Or.inl ⟨rfl, (has_vd hF hin hc hbr (fun e2 => by omega)).mp c61⟩, rfl⟩
  · skip
    obtain ⟨⟨e8, -⟩, b8, -⟩ := hG.pp hF.1 (k := b) (s := c i) (by omega) bc
    refine V_aload_0 d_mo_canHave_20 ?_
    refine V_getR d_mo_canHave_21 fl_mo_142 is_mo r_mo_passOf ?_
    refine V_bipush 24 d_mo_canHave_24 (by decide) ?_
    refine V_aload_0 d_mo_canHave_26 ?_
    refine V_getR d_mo_canHave_27 fl_mo_166 is_mo r_mo_body ?_
    refine V_iload_1 d_mo_canHave_30 ?_
    refine V_iald d_mo_canHave_31 is_mo_body (by omega) (by omega) ?_
    rw [hb]
    refine V_imul d_mo_canHave_32 ?_
    refine V_iload_3 d_mo_canHave_33 ?_
    refine V_iadd d_mo_canHave_34 ?_
    refine V_iald d_mo_canHave_35 is_mo_passOf (by omega) (by omega) ?_
    rw [e8]
    refine V_iload_2 d_mo_canHave_36 ?_
    refine V_icmp_ge 42 d_mo_canHave_37 (by decide) (by omega) (by omega) (fun c37 => ?_) (fun c37 => ?_)
    · skip
      refine V_aload_0 d_mo_canHave_42 ?_
      refine V_getR d_mo_canHave_43 fl_mo_169 is_mo r_mo_bodyHas ?_
      refine V_aload_0 d_mo_canHave_46 ?_
      refine V_iload_1 d_mo_canHave_47 ?_
      refine V_cvI1 d_mo_canHave_48 ml_mo_494 mv_mo_hasOf (by decide) (Nat.le_of_ble_eq_true rfl) is_mo (ok_hasOf hG hF.1 (by omega) hb (by omega) ei bc) ?_
      rintro _ f2 ⟨rfl, e2⟩
      rw [e2]; clear e2 f2
      rw [hvv]
      refine V_iald d_mo_canHave_51 is_mo_bodyHas (by omega) (by omega) ?_
      rw [eH]
      refine V_aload_0 d_mo_canHave_52 ?_
      refine V_getR d_mo_canHave_53 fl_mo_151 is_mo r_mo_with ?_
      refine V_iload_3 d_mo_canHave_56 ?_
      refine V_iald d_mo_canHave_57 is_mo_with (by omega) (by omega) ?_
      rw [em]
      refine V_iconst (-1) d_mo_canHave_58 ?_
      refine V_ixor d_mo_canHave_59 ?_
      refine V_iand d_mo_canHave_60 ?_
      rw [mB_andn]
      refine V_if_ne 68 d_mo_canHave_61 (by decide) (mB_rg2 _) (fun c61 => ?_) (fun c61 => ?_)
      · skip
        refine V_iconst 0 d_mo_canHave_68 ?_
        refine V_ireturn d_mo_canHave_69 (hR _ _ (by decide) ?_)
        exact ⟨Or.inr ⟨rfl, fun e => c61 ((has_vd hF hin hc hbr (fun e2 => by omega)).mpr e)⟩, rfl⟩
      · skip
        refine V_iconst 1 d_mo_canHave_64 ?_
        refine V_goto 69 d_mo_canHave_65 (by decide) ?_
        refine V_ireturn d_mo_canHave_69 (hR _ _ (by decide) ?_)
        exact ⟨Or.inl ⟨rfl, (has_vd hF hin hc hbr (fun e2 => by omega)).mp c61⟩, rfl⟩
    · skip
      refine V_iconst 0 d_mo_canHave_40 ?_
      refine V_ireturn d_mo_canHave_41 (hR _ _ (by decide) ?_)
      refine ⟨Or.inr ⟨rfl, fun e => ?_⟩, rfl⟩
      unfold vd bdy okS at e
      rw [if_pos (show b < A 0 2 0 by omega), if_neg (by omega), decide_eq_false (p := l ≤ A 8 b (c i)) (by omega)] at e
      simp at e
theorem ok_isNext (hS : Mst f A) (hF : Wf A) {c a : Int → Int} {n i : Nat} (hq : q_bod f A c a n i) (hin : i < n) (n8 : n ≤ 8) (hc : ∀ k : Int, 0 ≤ k → k < n → 0 ≤ c k ∧ c k < A 0 4 0) {b l w : Int} (hb : f 270 i = b) (hw : w = A 0 2 0 ∨ w = A 0 2 0 + 1) (hbr : -1 ≤ b ∧ b < w) (hl : -2147483648 ≤ l ∧ l < 2147483648) : OkI D m_mo_isNext [vr D 219, vi i, vi w, vi l] (Zg g h) f (fun x f' => (x = if nxN A c a l i (w - (b + 1)).toNat (b + 1) < w then 1 else 0) ∧ f' = q_up f 270 i (nxN A c a l i (w - (b + 1)).toNat (b + 1))) := by
  have hn := hF.nn
  refine OkB_of (L0 := [vr D 219, vi i, vi w, vi l]) mi_mo_isNext rfl rfl (Nat.le_of_ble_eq_true rfl) (fun C hR => ?_)
  have loop : ∀ (m : Nat) (y T : Int), y + m = w → 0 ≤ y → nxN A c a l i m y = T → T = nxN A c a l i (w - (b + 1)).toNat (b + 1) → V D C m_mo_isNext 10 [vr D 219, vi i, vi w, vi l] [] (Zg g h) (q_up f 270 i y) := by
    intro m
    induction m with
    | zero =>
      intro y T hm h0 hr hT
      unfold nxN at hr
      refine V_aload_0 d_mo_isNext_10 ?_
      refine V_getR d_mo_isNext_11 fl_mo_166 is_mo r_mo_body ?_
      refine V_iload_1 d_mo_isNext_14 ?_
      refine V_iald d_mo_isNext_15 is_mo_body (by omega) (by omega) ?_
      rw [q_up_eq]
      refine V_iload_2 d_mo_isNext_16 ?_
      refine V_icmp_ge 42 d_mo_isNext_17 (by decide) (by omega) (by omega) (fun c17 => ?_) (fun c17 => by omega)
      refine V_aload_0 d_mo_isNext_42 ?_
      refine V_getR d_mo_isNext_43 fl_mo_166 is_mo r_mo_body ?_
      refine V_iload_1 d_mo_isNext_46 ?_
      refine V_iald d_mo_isNext_47 is_mo_body (by omega) (by omega) ?_
      rw [q_up_eq]
      refine V_iload_2 d_mo_isNext_48 ?_
      refine V_icmp_ge 56 d_mo_isNext_49 (by decide) (by omega) (by omega) (fun c49 => ?_) (fun c49 => by omega)
      refine V_iconst 0 d_mo_isNext_56 ?_
      refine V_ireturn d_mo_isNext_57 (hR _ _ (by decide) ?_)
      refine ⟨?_, ?_⟩
      · rw [← hT, if_neg (by omega)]
      · rw [← hT, hr]
    | succ m ih =>
      intro y T hm h0 hr hT
      have hGF : Mg (q_up f 270 i y) A := (hS.scr hF (fun j k p q => q_up_at (by omega))).1
      have hqF : q_bod (q_up f 270 i y) A c a n i := ⟨fun k k0 k1 => by rw [q_up_at (by decide)]; exact hq.1 k k0 k1, fun k k0 k1 => by rw [q_up_at (by decide)]; exact hq.2.1 k k0 k1, fun k k0 k1 => by rw [q_up_at (by decide)]; exact hq.2.2 k k0 k1⟩
      unfold nxN at hr
      refine V_aload_0 d_mo_isNext_10 ?_
      refine V_getR d_mo_isNext_11 fl_mo_166 is_mo r_mo_body ?_
      refine V_iload_1 d_mo_isNext_14 ?_
      refine V_iald d_mo_isNext_15 is_mo_body (by omega) (by omega) ?_
      rw [q_up_eq]
      refine V_iload_2 d_mo_isNext_16 ?_
      refine V_icmp_ge 42 d_mo_isNext_17 (by decide) (by omega) (by omega) (fun c17 => by omega) (fun c17 => ?_)
      refine V_aload_0 d_mo_isNext_20 ?_
      refine V_iload_1 d_mo_isNext_21 ?_
      refine V_iload_3 d_mo_isNext_22 ?_
      refine V_cvI2 d_mo_isNext_23 ml_mo_497 mv_mo_canHave (by decide) (Nat.le_of_ble_eq_true rfl) is_mo (ok_canHave hGF hF hqF hin n8 hc (q_up_eq _ _ _ _) (by omega) hl) ?_
      rintro x23 f2 ⟨hx23, e2⟩
      rw [e2]; clear e2 f2
      refine V_if_ne 42 d_mo_isNext_26 (by decide) (by omega) (fun c26 => ?_) (fun c26 => ?_)
      · skip
        rw [if_pos (q_b1 hx23 c26)] at hr
        refine V_aload_0 d_mo_isNext_42 ?_
        refine V_getR d_mo_isNext_43 fl_mo_166 is_mo r_mo_body ?_
        refine V_iload_1 d_mo_isNext_46 ?_
        refine V_iald d_mo_isNext_47 is_mo_body (by omega) (by omega) ?_
        rw [q_up_eq]
        refine V_iload_2 d_mo_isNext_48 ?_
        refine V_icmp_ge 56 d_mo_isNext_49 (by decide) (by omega) (by omega) (fun c49 => by omega) (fun c49 => ?_)
        refine V_iconst 1 d_mo_isNext_52 ?_
        refine V_goto 57 d_mo_isNext_53 (by decide) ?_
        refine V_ireturn d_mo_isNext_57 (hR _ _ (by decide) ?_)
        refine ⟨?_, ?_⟩
        · rw [← hT, if_pos (by omega)]
        · rw [← hT, hr]
      · skip
        rw [if_neg (q_b0 hx23 (by omega))] at hr
        refine V_aload_0 d_mo_isNext_29 ?_
        refine V_getR d_mo_isNext_30 fl_mo_166 is_mo r_mo_body ?_
        refine V_iload_1 d_mo_isNext_33 ?_
        refine V_dup2 d_mo_isNext_34 rfl rfl ?_
        refine V_iald d_mo_isNext_35 is_mo_body (by omega) (by omega) ?_
        rw [q_up_eq]
        refine V_iconst 1 d_mo_isNext_36 ?_
        refine V_iadd d_mo_isNext_37 ?_
        refine V_iast d_mo_isNext_38 is_mo_body (by omega) (by omega) ?_
        rw [q_up_up]
        refine V_goto 10 d_mo_isNext_39 (by decide) ?_
        exact ih _ _ (by omega) (by omega) hr hT
  refine V_aload_0 d_mo_isNext_0 ?_
  refine V_getR d_mo_isNext_1 fl_mo_166 is_mo r_mo_body ?_
  refine V_iload_1 d_mo_isNext_4 ?_
  refine V_dup2 d_mo_isNext_5 rfl rfl ?_
  refine V_iald d_mo_isNext_6 is_mo_body (by omega) (by omega) ?_
  rw [hb]
  refine V_iconst 1 d_mo_isNext_7 ?_
  refine V_iadd d_mo_isNext_8 ?_
  refine V_iast d_mo_isNext_9 is_mo_body (by omega) (by omega) ?_
  exact loop (w - (b + 1)).toNat _ _ (by omega) (by omega) rfl rfl
end MO11
