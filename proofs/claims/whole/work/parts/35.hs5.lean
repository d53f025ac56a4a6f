/-! the class: feed, end, seed, image, hire, undo, on -/
def A_tape (A : q_As) (n : Int) (t : Int → Int) : q_As := fun c i j => if c = 13 ∧ i = 0 ∧ j = 3 then n else if c = 14 ∧ j = 0 then t i else A c i j
def A_img (A : q_As) (n : Int) (t : Int → Int) : q_As := fun c i j => if c = 13 ∧ i = 0 ∧ j = 5 then n else if c = 15 ∧ j = 0 then t i else A c i j
def A_hs (A : q_As) (n : Int) (t : Int → Int) (u : Int → Int → Int) : q_As := fun c i j => if c = 13 ∧ i = 0 ∧ j = 0 then n else if c = 11 ∧ j = 0 then t i else if c = 12 then u i j else A c i j
def wrd (a b c d e : Int) (k : Int) : Int := if k < 4 then a else if k < 8 then b else if k < 12 then c else if k < 16 then d else e
def byt (w k : Int) : Int := q_and (q_shr w (8 * (3 - k % 4))) 255
def S_feed (A : q_As) : Int := if A 13 0 3 + 20 ≤ 1600 then A 13 0 3 + 20 else -1
def A_feed (A : q_As) (a b c d e : Int) : q_As := if A 13 0 3 + 20 ≤ 1600 then A_tape A (A 13 0 3 + 20) (fun k => if k < A 13 0 3 then A 14 k 0 else byt (wrd a b c d e (k - A 13 0 3)) (k - A 13 0 3)) else A
def S_end (A : q_As) (n : Int) : Int := if 0 ≤ n ∧ n ≤ A 13 0 3 then 1 else 0
def A_end (A : q_As) (n : Int) : q_As := if 0 ≤ n ∧ n ≤ A 13 0 3 then A_tape A n (fun k => A 14 k 0) else A
section HS5
variable {D : q_D} {f f' : q_F} {A : q_As} {g h : Int}
theorem A_tape_g (n : Int) (t : Int → Int) : gEq A (A_tape A n t) := ⟨rfl, rfl, rfl, rfl, rfl, rfl, rfl, rfl, rfl, rfl, rfl, rfl⟩
theorem A_img_g (n : Int) (t : Int → Int) : gEq A (A_img A n t) := ⟨rfl, rfl, rfl, rfl, rfl, rfl, rfl, rfl, rfl, rfl, rfl, rfl⟩
theorem A_hs_g (n : Int) (t : Int → Int) (u : Int → Int → Int) : gEq A (A_hs A n t u) := ⟨rfl, rfl, rfl, rfl, rfl, rfl, rfl, rfl, rfl, rfl, rfl, rfl⟩
theorem A_tape_13 (n : Int) (t : Int → Int) (j : Int) : A_tape A n t 13 0 j = if j = 3 then n else A 13 0 j := by unfold A_tape; by_cases e : j = 3 <;> simp [e]
theorem A_tape_14 (n : Int) (t : Int → Int) (i : Int) : A_tape A n t 14 i 0 = t i := by unfold A_tape; simp
theorem A_img_13 (n : Int) (t : Int → Int) (j : Int) : A_img A n t 13 0 j = if j = 5 then n else A 13 0 j := by unfold A_img; by_cases e : j = 5 <;> simp [e]
theorem A_img_15 (n : Int) (t : Int → Int) (i : Int) : A_img A n t 15 i 0 = t i := by unfold A_img; simp
theorem A_hs_13 (n : Int) (t : Int → Int) (u : Int → Int → Int) (j : Int) : A_hs A n t u 13 0 j = if j = 0 then n else A 13 0 j := by unfold A_hs; by_cases e : j = 0 <;> simp [e]
theorem A_hs_11 (n : Int) (t : Int → Int) (u : Int → Int → Int) (i : Int) : A_hs A n t u 11 i 0 = t i := by unfold A_hs; simp
theorem A_hs_12 (n : Int) (t : Int → Int) (u : Int → Int → Int) (i j : Int) : A_hs A n t u 12 i j = u i j := by unfold A_hs; simp
theorem q_G51 (hg : q_G g) : 51 ≤ g ∧ g + 84 ≤ 219 := by rcases hg with rfl | rfl <;> decide
/-- another tape -/
theorem Cst.tape (hS : Cst g f A) (hF : Wf A) {n : Int} {t : Int → Int} (hf : ∀ j k, ¬ j = 2 → ¬ (j = 1 ∧ k = 1) → f' j k = f j k) (h1 : f' 1 1 = n) (h2 : ∀ k, 0 ≤ k → k < n → f' 2 k = t k) : Cst g f' (A_tape A n t) := by
  obtain ⟨hg, hG, hH, hT⟩ := hS
  have hg2 := q_G51 hg
  refine ⟨hg, hG.mono (A_tape_g n t) hF.1 (fun j k a b => hf j k (by omega) (by omega)), hH.mono rfl rfl rfl rfl (fun j k a b => hf j k (by omega) (by omega)), ?_⟩
  obtain ⟨c1, c2, c3, c4, c5, c6, c7⟩ := hT
  refine ⟨?_, fun k a b => ?_, ?_, ?_, ?_, ?_, fun k a b => ?_⟩
  · rw [A_tape_13, if_pos rfl]; exact h1
  · rw [A_tape_13, if_pos rfl] at b; rw [A_tape_14]; exact h2 k a b
  · rw [A_tape_13, if_neg (by decide), hf _ _ (by decide) (by decide)]; exact c3
  · rw [A_tape_13, if_neg (by decide), hf _ _ (by decide) (by decide)]; exact c4
  · rw [A_tape_13, if_neg (by decide), hf _ _ (by decide) (by decide)]; exact c5
  · rw [A_tape_13, if_neg (by decide), hf _ _ (by decide) (by decide)]; exact c6
  · rw [A_tape_13, if_neg (by decide)] at b; rw [hf _ _ (by decide) (by omega)]; exact c7 k a b
theorem W_tape (hF : Wf A) {n : Int} {t : Int → Int} (hn : 0 ≤ n ∧ n ≤ 1600) (ht : ∀ k, 0 ≤ k → k < n → 0 ≤ t k ∧ t k ≤ 255) : Wf (A_tape A n t) := by
  obtain ⟨h1, h2, h3⟩ := hF
  refine ⟨h1.mono (A_tape_g n t), h2.mono (A_tape_g n t) rfl rfl rfl, ?_⟩
  unfold Wt
  simp only [A_tape_13, A_tape_14, show ∀ i, A_tape A n t 15 i 0 = A 15 i 0 from fun _ => rfl]
  exact ⟨hn, ht, h3.2.2⟩
theorem q_byte (w : Int) : 0 ≤ q_and w 255 ∧ q_and w 255 ≤ 255 := by
  unfold q_and
  have h : ((Int32.ofInt w &&& Int32.ofInt 255).toBitVec).toNat ≤ 255 := by
    rw [Int32.toBitVec_and, BitVec.toNat_and]
    exact Nat.and_le_right
  have e : (Int32.ofInt w &&& Int32.ofInt 255).toInt = (((Int32.ofInt w &&& Int32.ofInt 255).toBitVec).toNat : Int) := BitVec.toInt_eq_toNat_of_lt (by omega)
  rw [e]; omega
theorem q_up_is {f : q_F} {j k x b : Int} (h : b = k) : q_up f j k x j b = x := by rw [h]; exact q_up_eq _ _ _ _
theorem ok_append {n w : Int} (hl : f 1 1 = n) (hn : 0 ≤ n ∧ n + 4 ≤ 1600) : OkV D m_tp_append [vr D 1, vi w] (Zg g h) f (fun f' => f' 1 1 = n + 4 ∧ (∀ j k, ¬ (j = 2 ∧ n ≤ k ∧ k < n + 4) → ¬ (j = 1 ∧ k = 1) → f' j k = f j k) ∧ (∀ r, 0 ≤ r → r < 4 → f' 2 (n + r) = byt w r)) := by
  refine OkV_of (L0 := [vr D 1, vi w, vu]) mi_tp_append rfl rfl (Nat.le_of_ble_eq_true rfl) (fun C hR => ?_)
  refine V_bipush 24 d_tp_append_0 (by decide) ?_
  refine V_istore_2 d_tp_append_2 rfl ?_
  refine V_iload_2 d_tp_append_3 ?_
  refine V_if_lt 49 d_tp_append_4 (by decide) (by omega) (fun c4 => by omega) (fun c4 => ?_)
  refine V_aload_0 d_tp_append_7 ?_
  refine V_getI d_tp_append_8 fl_tp_19 is_tp ?_
  rw [hl]
  refine V_sipush 1600 d_tp_append_11 (by decide) ?_
  refine V_icmp_ge 49 d_tp_append_14 (by decide) (by omega) (by omega) (fun c14 => by omega) (fun c14 => ?_)
  refine V_aload_0 d_tp_append_17 ?_
  refine V_getR d_tp_append_18 fl_tp_9 is_tp r_tp_bytes ?_
  refine V_aload_0 d_tp_append_21 ?_
  refine V_getI d_tp_append_22 fl_tp_19 is_tp ?_
  rw [hl]
  refine V_iload_1 d_tp_append_25 ?_
  refine V_iload_2 d_tp_append_26 ?_
  refine V_ishr d_tp_append_27 ?_
  refine V_sipush 255 d_tp_append_28 (by decide) ?_
  refine V_iand d_tp_append_31 ?_
  refine V_iast d_tp_append_32 is_tp_bytes (by omega) (by omega) ?_
  refine V_aload_0 d_tp_append_33 ?_
  refine V_dup d_tp_append_34 rfl ?_
  refine V_getI d_tp_append_35 fl_tp_19 is_tp ?_
  rw [q_up_at (by decide), hl]
  refine V_iconst 1 d_tp_append_38 ?_
  refine V_iadd d_tp_append_39 ?_
  refine V_putI d_tp_append_40 fl_tp_19 is_tp ?_
  refine V_iinc_2 d_tp_append_43 rfl ?_
  refine V_goto 3 d_tp_append_46 (by decide) ?_
  refine V_iload_2 d_tp_append_3 ?_
  refine V_if_lt 49 d_tp_append_4 (by decide) (by omega) (fun c4 => by omega) (fun c4 => ?_)
  refine V_aload_0 d_tp_append_7 ?_
  refine V_getI d_tp_append_8 fl_tp_19 is_tp ?_
  rw [q_up_eq]
  refine V_sipush 1600 d_tp_append_11 (by decide) ?_
  refine V_icmp_ge 49 d_tp_append_14 (by decide) (by omega) (by omega) (fun c14 => by omega) (fun c14 => ?_)
  refine V_aload_0 d_tp_append_17 ?_
  refine V_getR d_tp_append_18 fl_tp_9 is_tp r_tp_bytes ?_
  refine V_aload_0 d_tp_append_21 ?_
  refine V_getI d_tp_append_22 fl_tp_19 is_tp ?_
  rw [q_up_eq]
  refine V_iload_1 d_tp_append_25 ?_
  refine V_iload_2 d_tp_append_26 ?_
  refine V_ishr d_tp_append_27 ?_
  refine V_sipush 255 d_tp_append_28 (by decide) ?_
  refine V_iand d_tp_append_31 ?_
  refine V_iast d_tp_append_32 is_tp_bytes (by omega) (by omega) ?_
  refine V_aload_0 d_tp_append_33 ?_
  refine V_dup d_tp_append_34 rfl ?_
  refine V_getI d_tp_append_35 fl_tp_19 is_tp ?_
  rw [q_up_at (by decide), q_up_eq]
  refine V_iconst 1 d_tp_append_38 ?_
  refine V_iadd d_tp_append_39 ?_
  refine V_putI d_tp_append_40 fl_tp_19 is_tp ?_
  refine V_iinc_2 d_tp_append_43 rfl ?_
  refine V_goto 3 d_tp_append_46 (by decide) ?_
  refine V_iload_2 d_tp_append_3 ?_
  refine V_if_lt 49 d_tp_append_4 (by decide) (by omega) (fun c4 => by omega) (fun c4 => ?_)
  refine V_aload_0 d_tp_append_7 ?_
  refine V_getI d_tp_append_8 fl_tp_19 is_tp ?_
  rw [q_up_eq]
  refine V_sipush 1600 d_tp_append_11 (by decide) ?_
  refine V_icmp_ge 49 d_tp_append_14 (by decide) (by omega) (by omega) (fun c14 => by omega) (fun c14 => ?_)
  refine V_aload_0 d_tp_append_17 ?_
  refine V_getR d_tp_append_18 fl_tp_9 is_tp r_tp_bytes ?_
  refine V_aload_0 d_tp_append_21 ?_
  refine V_getI d_tp_append_22 fl_tp_19 is_tp ?_
  rw [q_up_eq]
  refine V_iload_1 d_tp_append_25 ?_
  refine V_iload_2 d_tp_append_26 ?_
  refine V_ishr d_tp_append_27 ?_
  refine V_sipush 255 d_tp_append_28 (by decide) ?_
  refine V_iand d_tp_append_31 ?_
  refine V_iast d_tp_append_32 is_tp_bytes (by omega) (by omega) ?_
  refine V_aload_0 d_tp_append_33 ?_
  refine V_dup d_tp_append_34 rfl ?_
  refine V_getI d_tp_append_35 fl_tp_19 is_tp ?_
  rw [q_up_at (by decide), q_up_eq]
  refine V_iconst 1 d_tp_append_38 ?_
  refine V_iadd d_tp_append_39 ?_
  refine V_putI d_tp_append_40 fl_tp_19 is_tp ?_
  refine V_iinc_2 d_tp_append_43 rfl ?_
  refine V_goto 3 d_tp_append_46 (by decide) ?_
  refine V_iload_2 d_tp_append_3 ?_
  refine V_if_lt 49 d_tp_append_4 (by decide) (by omega) (fun c4 => by omega) (fun c4 => ?_)
  refine V_aload_0 d_tp_append_7 ?_
  refine V_getI d_tp_append_8 fl_tp_19 is_tp ?_
  rw [q_up_eq]
  refine V_sipush 1600 d_tp_append_11 (by decide) ?_
  refine V_icmp_ge 49 d_tp_append_14 (by decide) (by omega) (by omega) (fun c14 => by omega) (fun c14 => ?_)
  refine V_aload_0 d_tp_append_17 ?_
  refine V_getR d_tp_append_18 fl_tp_9 is_tp r_tp_bytes ?_
  refine V_aload_0 d_tp_append_21 ?_
  refine V_getI d_tp_append_22 fl_tp_19 is_tp ?_
  rw [q_up_eq]
  refine V_iload_1 d_tp_append_25 ?_
  refine V_iload_2 d_tp_append_26 ?_
  refine V_ishr d_tp_append_27 ?_
  refine V_sipush 255 d_tp_append_28 (by decide) ?_
  refine V_iand d_tp_append_31 ?_
  refine V_iast d_tp_append_32 is_tp_bytes (by omega) (by omega) ?_
  refine V_aload_0 d_tp_append_33 ?_
  refine V_dup d_tp_append_34 rfl ?_
  refine V_getI d_tp_append_35 fl_tp_19 is_tp ?_
  rw [q_up_at (by decide), q_up_eq]
  refine V_iconst 1 d_tp_append_38 ?_
  refine V_iadd d_tp_append_39 ?_
  refine V_putI d_tp_append_40 fl_tp_19 is_tp ?_
  refine V_iinc_2 d_tp_append_43 rfl ?_
  refine V_goto 3 d_tp_append_46 (by decide) ?_
  refine V_iload_2 d_tp_append_3 ?_
  refine V_if_lt 49 d_tp_append_4 (by decide) (by omega) (fun c4 => ?_) (fun c4 => by omega)
  refine V_return d_tp_append_49 (hR _ ?_)
  refine ⟨by rw [q_up_eq]; omega, fun j k h1 h2 => ?_, fun r r0 r1 => ?_⟩
  · rw [q_up_ne (by omega), q_up_ne (by omega), q_up_ne (by omega), q_up_ne (by omega), q_up_ne (by omega), q_up_ne (by omega), q_up_ne (by omega), q_up_ne (by omega)]
  · rcases (show r = 0 ∨ r = 1 ∨ r = 2 ∨ r = 3 by omega) with rfl | rfl | rfl | rfl
    · rw [q_up_at (by decide), q_up_ne (Or.inr (by omega)), q_up_at (by decide), q_up_ne (Or.inr (by omega)), q_up_at (by decide), q_up_ne (Or.inr (by omega)), q_up_at (by decide), q_up_is (by omega)]; rfl
    · rw [q_up_at (by decide), q_up_ne (Or.inr (by omega)), q_up_at (by decide), q_up_ne (Or.inr (by omega)), q_up_at (by decide), q_up_is (by omega)]; rfl
    · rw [q_up_at (by decide), q_up_ne (Or.inr (by omega)), q_up_at (by decide), q_up_is (by omega)]; rfl
    · rw [q_up_at (by decide), q_up_is (by omega)]; rfl
theorem byt_rg (w k : Int) : 0 ≤ byt w k ∧ byt w k ≤ 255 := q_byte _
theorem W_feed (hF : Wf A) (a b c d e : Int) : Wf (A_feed A a b c d e) := by
  have ht := hF.2.2
  unfold A_feed
  split
  · next hc =>
    refine W_tape hF ⟨by have := ht.1; omega, hc⟩ (fun k k0 k1 => ?_)
    split
    · next hk => exact ht.2.1 k k0 hk
    · exact byt_rg _ _
  · exact hF
theorem byt4 (w k : Int) : byt w (k + 4) = byt w k := by unfold byt; rw [show (k + 4) % 4 = k % 4 by omega]
theorem hs_feed (hS : Cst g f A) (hF : Wf A) {a b c d e : Int} : OkI D m_hs_feed [vr D 0, vi a, vi b, vi c, vi d, vi e] (Zg g h) f (fun x f' => x = S_feed A ∧ Cst g f' (A_feed A a b c d e) ∧ q_lo f f') := by
  have hT := hS.2.2.2
  have e1 := hT.1
  have hw := hF.2.2.1
  have hx : ∀ x, x = -1 → ¬ A 13 0 3 + 20 ≤ 1600 → x = S_feed A := fun x h1 h2 => by unfold S_feed; rw [if_neg h2]; exact h1
  refine OkI_of (L0 := [vr D 0, vi a, vi b, vi c, vi d, vi e]) mi_hs_feed rfl rfl (Nat.le_of_ble_eq_true rfl) (fun C hR => ?_)
  refine V_aload_0 d_hs_feed_0 ?_
  refine V_getR d_hs_feed_1 fl_hs_10 is_hs r_hs_tape ?_
  refine V_getI d_hs_feed_4 fl_hs_64 is_tp ?_
  rw [e1]
  refine V_bipush 20 d_hs_feed_7 (by decide) ?_
  refine V_iadd d_hs_feed_9 ?_
  refine V_sipush 1600 d_hs_feed_10 (by decide) ?_
  refine V_icmp_le 18 d_hs_feed_13 (by decide) (by omega) (by omega) (fun c13 => ?_) (fun c13 => ?_)
  · skip
    refine V_aload_0 d_hs_feed_18 ?_
    refine V_getR d_hs_feed_19 fl_hs_10 is_hs r_hs_tape ?_
    refine V_iload_1 d_hs_feed_22 ?_
    refine V_cvV1 d_hs_feed_23 ml_hs_67 mv_tp_append (by decide) (Nat.le_of_ble_eq_true rfl) is_tp (ok_append e1 (by omega)) ?_
    rintro f1 ⟨l1, o1, b1⟩
    refine V_aload_0 d_hs_feed_26 ?_
    refine V_getR d_hs_feed_27 fl_hs_10 is_hs r_hs_tape ?_
    refine V_iload_2 d_hs_feed_30 ?_
    refine V_cvV1 d_hs_feed_31 ml_hs_67 mv_tp_append (by decide) (Nat.le_of_ble_eq_true rfl) is_tp (ok_append l1 (by omega)) ?_
    rintro f2 ⟨l2, o2, b2⟩
    refine V_aload_0 d_hs_feed_34 ?_
    refine V_getR d_hs_feed_35 fl_hs_10 is_hs r_hs_tape ?_
    refine V_iload_3 d_hs_feed_38 ?_
    refine V_cvV1 d_hs_feed_39 ml_hs_67 mv_tp_append (by decide) (Nat.le_of_ble_eq_true rfl) is_tp (ok_append l2 (by omega)) ?_
    rintro f3 ⟨l3, o3, b3⟩
    refine V_aload_0 d_hs_feed_42 ?_
    refine V_getR d_hs_feed_43 fl_hs_10 is_hs r_hs_tape ?_
    refine V_iload_4 d_hs_feed_46 ?_
    refine V_cvV1 d_hs_feed_48 ml_hs_67 mv_tp_append (by decide) (Nat.le_of_ble_eq_true rfl) is_tp (ok_append l3 (by omega)) ?_
    rintro f4 ⟨l4, o4, b4⟩
    refine V_aload_0 d_hs_feed_51 ?_
    refine V_getR d_hs_feed_52 fl_hs_10 is_hs r_hs_tape ?_
    refine V_iload_5 d_hs_feed_55 ?_
    refine V_cvV1 d_hs_feed_57 ml_hs_67 mv_tp_append (by decide) (Nat.le_of_ble_eq_true rfl) is_tp (ok_append l4 (by omega)) ?_
    rintro f5 ⟨l5, o5, b5⟩
    refine V_aload_0 d_hs_feed_60 ?_
    refine V_getR d_hs_feed_61 fl_hs_10 is_hs r_hs_tape ?_
    refine V_getI d_hs_feed_64 fl_hs_64 is_tp ?_
    rw [l5]
    refine V_ireturn d_hs_feed_67 (hR _ _ ?_)
    have hall : ∀ j k, ¬ (j = 2 ∧ A 13 0 3 ≤ k ∧ k < A 13 0 3 + 20) → ¬ (j = 1 ∧ k = 1) → f5 j k = f j k := fun j k h1 h2 => by
      rw [o5 j k (by omega) h2, o4 j k (by omega) h2, o3 j k (by omega) h2, o2 j k (by omega) h2, o1 j k (by omega) h2]
    refine ⟨by unfold S_feed; rw [if_pos (by omega)]; omega, ?_, fun j k hj => hall j k (by omega) (by omega)⟩
    unfold A_feed; rw [if_pos (by omega)]
    refine hS.tape hF (fun j k h1 h2 => hall j k (by omega) h2) (by rw [l5]; omega) (fun k k0 k1 => ?_)
    by_cases hk : k < A 13 0 3
    · rw [if_pos hk, hall _ _ (by omega) (by omega)]; exact hT.2.1 k k0 hk
    · rw [if_neg hk]
      generalize hr : k - A 13 0 3 = r
      have hkr : k = A 13 0 3 + r := by omega
      unfold wrd
      by_cases r1 : r < 4
      · rw [if_pos r1, o5 _ _ (by omega) (by omega), o4 _ _ (by omega) (by omega), o3 _ _ (by omega) (by omega), o2 _ _ (by omega) (by omega), hkr]
        exact b1 r (by omega) r1
      · rw [if_neg r1]
        by_cases r2 : r < 8
        · rw [if_pos r2, o5 _ _ (by omega) (by omega), o4 _ _ (by omega) (by omega), o3 _ _ (by omega) (by omega), show k = A 13 0 3 + 4 + (r - 4) by omega, b2 (r - 4) (by omega) (by omega), ← byt4, show r - 4 + 4 = r by omega]
        · rw [if_neg r2]
          by_cases r3 : r < 12
          · rw [if_pos r3, o5 _ _ (by omega) (by omega), o4 _ _ (by omega) (by omega), show k = A 13 0 3 + 4 + 4 + (r - 4 - 4) by omega, b3 (r - 4 - 4) (by omega) (by omega), ← byt4, ← byt4, show r - 4 - 4 + 4 + 4 = r by omega]
          · rw [if_neg r3]
            by_cases r4 : r < 16
            · rw [if_pos r4, o5 _ _ (by omega) (by omega), show k = A 13 0 3 + 4 + 4 + 4 + (r - 4 - 4 - 4) by omega, b4 (r - 4 - 4 - 4) (by omega) (by omega), ← byt4, ← byt4, ← byt4, show r - 4 - 4 - 4 + 4 + 4 + 4 = r by omega]
            · rw [if_neg r4, show k = A 13 0 3 + 4 + 4 + 4 + 4 + (r - 4 - 4 - 4 - 4) by omega, b5 (r - 4 - 4 - 4 - 4) (by omega) (by omega), ← byt4, ← byt4, ← byt4, ← byt4, show r - 4 - 4 - 4 - 4 + 4 + 4 + 4 + 4 = r by omega]
  · skip
    refine V_iconst (-1) d_hs_feed_16 ?_
    refine V_ireturn d_hs_feed_17 (hR _ _ ?_)
    refine ⟨hx _ rfl (by omega), ?_, q_lo.refl _⟩
    unfold A_feed; rw [if_neg (by omega)]; exact hS
theorem W_end (hF : Wf A) (n : Int) : Wf (A_end A n) := by
  unfold A_end
  split
  · next hc => exact W_tape hF ⟨hc.1, by have := hF.2.2.1; omega⟩ (fun k k0 k1 => hF.2.2.2.1 k k0 (by omega))
  · exact hF
theorem hs_end (hS : Cst g f A) (hF : Wf A) {n : Int} (hn : -2147483648 ≤ n ∧ n < 2147483648) : OkI D m_hs_end [vr D 0, vi n] (Zg g h) f (fun x f' => x = S_end A n ∧ Cst g f' (A_end A n) ∧ q_lo f f') := by
  have hT := hS.2.2.2
  have e1 := hT.1
  have hw := hF.2.2.1
  refine OkB_of (L0 := [vr D 0, vi n]) mi_hs_end rfl rfl (Nat.le_of_ble_eq_true rfl) (fun C hR => ?_)
  refine V_iload_1 d_hs_end_0 ?_
  refine V_if_lt 15 d_hs_end_1 (by decide) (by omega) (fun c1 => ?_) (fun c1 => ?_)
  · skip
    refine V_iconst 0 d_hs_end_15 ?_
    refine V_ireturn d_hs_end_16 (hR _ _ (by decide) ?_)
    refine ⟨by unfold S_end; rw [if_neg (by omega)], ?_, q_lo.refl _⟩
    unfold A_end; rw [if_neg (by omega)]; exact hS
  · skip
    refine V_iload_1 d_hs_end_4 ?_
    refine V_aload_0 d_hs_end_5 ?_
    refine V_getR d_hs_end_6 fl_hs_10 is_hs r_hs_tape ?_
    refine V_getI d_hs_end_9 fl_hs_64 is_tp ?_
    rw [e1]
    refine V_icmp_le 17 d_hs_end_12 (by decide) (by omega) (by omega) (fun c12 => ?_) (fun c12 => ?_)
    · skip
      refine V_aload_0 d_hs_end_17 ?_
      refine V_getR d_hs_end_18 fl_hs_10 is_hs r_hs_tape ?_
      refine V_iload_1 d_hs_end_21 ?_
      refine V_putI d_hs_end_22 fl_hs_64 is_tp ?_
      refine V_iconst 1 d_hs_end_25 ?_
      refine V_ireturn d_hs_end_26 (hR _ _ (by decide) ?_)
      refine ⟨by unfold S_end; rw [if_pos (by omega)], ?_, fun j k hj => q_up_at (by omega)⟩
      unfold A_end; rw [if_pos (by omega)]
      exact hS.tape hF (fun j k h1 h2 => q_up_ne (by omega)) (q_up_eq _ _ _ _) (fun k k0 k1 => by rw [q_up_at (by decide)]; exact hT.2.1 k k0 (by omega))
    · skip
      refine V_iconst 0 d_hs_end_15 ?_
      refine V_ireturn d_hs_end_16 (hR _ _ (by decide) ?_)
      refine ⟨by unfold S_end; rw [if_neg (by omega)], ?_, q_lo.refl _⟩
      unfold A_end; rw [if_neg (by omega)]; exact hS
end HS5
