/-! STATEMENTS: what a text has told so far lies in S as in the class's guild (cells counted from its first; 106, 107: where the rules' codes begin) -/
def nmF (S : q_F) (c v : Int) : Nat → Int → Int
  | 0, _ => -1
  | m + 1, w => if S c w = v then w else nmF S c v m (w + 1)
/-- which one of a kind bears a name -/
def nmS (S : q_F) (k v : Int) : Int := nmF S (3 + k) v (S 1 k).toNat 0
def gvn (S : q_F) (v : Int) : Bool := !(decide (nmS S 0 v = -1) && (decide (nmS S 1 v = -1) && (decide (nmS S 2 v = -1) && decide (nmS S 3 v = -1))))
/-- one more of a kind -/
def addN (S : q_F) (k v : Int) : q_F := q_up (q_up S (3 + k) (S 1 k) v) 1 k (S 1 k + 1)
def pW (S : q_F) : Prop := (0 ≤ S 1 0 ∧ S 1 0 ≤ 6) ∧ (0 ≤ S 1 1 ∧ S 1 1 ≤ 8) ∧ (0 ≤ S 1 2 ∧ S 1 2 ≤ 5) ∧ (0 ≤ S 1 3 ∧ S 1 3 ≤ 8) ∧ (0 ≤ S 1 4 ∧ S 1 4 ≤ 24) ∧ (0 ≤ S 1 5 ∧ S 1 5 ≤ 6) ∧ (0 ≤ S 1 6 ∧ S 1 6 ≤ 20) ∧ (∀ i w, 0 ≤ i → i < 4 → 0 ≤ w → w < S 1 i → 0 ≤ S (3 + i) w ∧ S (3 + i) w < 1073741824) ∧ ∀ a b, 0 ≤ a → a < 8 → 0 ≤ b → b < 8 → 0 ≤ S (37 + a) b ∧ S (37 + a) b ≤ 1000
/-- the class's cells hold S -/
def cE (h : Int) (f S : q_F) : Prop := (∀ j k, 0 ≤ j → j < 84 → f (h + j) k = S j k) ∧ (∀ k, f 6 k = S 106 k) ∧ ∀ k, f 7 k = S 107 k
def sK (h : Int) (f f' : q_F) : Prop := ∀ j k, ¬ j = 1 → ¬ (h ≤ j ∧ j < h + 84) → ¬ (4 ≤ j ∧ j ≤ 7) → f' j k = f j k
def mst (k : Int) : Int := if k = 0 then 6 else if k = 1 then 8 else if k = 2 then 5 else if k = 3 then 8 else if k = 4 then 24 else if k = 5 then 6 else 20
section STM
variable {D : q_D} {f f' S : q_F} {A : q_As} {g h : Int} {T : Int → Int} {N p e : Int}
theorem sK.refl (f : q_F) : sK h f f := fun _ _ _ _ _ => rfl
theorem sK.tr {f'' : q_F} (h1 : sK h f f') (h2 : sK h f' f'') : sK h f f'' := fun j k a b c => by rw [h2 j k a b c]; exact h1 j k a b c
theorem cK.s (h1 : cK f f') : sK h f f' := fun j k a _ _ => h1 j k a
theorem cE.ck (hh : q_G h) (hE : cE h f S) (h1 : cK f f') : cE h f' S := by
  have := q_G51 hh
  exact ⟨fun j k a b => by rw [h1 _ _ (by omega)]; exact hE.1 j k a b, fun k => by rw [h1 _ _ (by decide)]; exact hE.2.1 k, fun k => by rw [h1 _ _ (by decide)]; exact hE.2.2 k⟩
/-- a cell of the guild is written -/
theorem cE.up (hh : q_G h) (hE : cE h f S) {j : Int} (h0 : 0 ≤ j) (h1 : j < 84) (k x : Int) : cE h (q_up f (h + j) k x) (q_up S j k x) := by
  have := q_G51 hh
  refine ⟨fun a b a0 a1 => ?_, fun b => ?_, fun b => ?_⟩
  · unfold q_up
    by_cases e : a = j ∧ b = k
    · rw [if_pos ⟨by omega, e.2⟩, if_pos e]
    · rw [if_neg (by omega), if_neg e]; exact hE.1 a b a0 a1
  · rw [q_up_at (by omega), q_up_at (by omega)]; exact hE.2.1 b
  · rw [q_up_at (by omega), q_up_at (by omega)]; exact hE.2.2 b
theorem sK.up (hk : sK h f f') {j : Int} (h0 : 0 ≤ j) (h1 : j < 84) (k x : Int) : sK h f (q_up f' (h + j) k x) := fun a b c d e => by rw [q_up_at (by omega)]; exact hk a b c d e
theorem tpS.up (hh : q_G h) (hT : tpS f T N p e) {j : Int} (h0 : 0 ≤ j) (k x : Int) : tpS (q_up f (h + j) k x) T N p e := by
  have := q_G51 hh
  exact hT.fr (fun a b c => q_up_at (by omega))
theorem mst_at : ∀ k : Nat, k < 7 → (fun j => Value.int (q_most.getD j 0)) k = vi (mst k) := by
  intro k hk
  have : ∀ k : Nat, k < 7 → q_most.getD k 0 = Int32.ofInt (mst k) := by decide +kernel
  show Value.int _ = Value.int _
  rw [this k hk]
theorem ok_hasRoom (hh : q_G h) (hE : cE h f S) (hW : pW S) {k : Int} (hk : 0 ≤ k ∧ k < 7) : OkI D m_gd_hasRoom [vr D h, vi k] (Zg g h) f (fun x f' => ((x = 1 ∧ S 1 k < mst k) ∨ (x = 0 ∧ ¬ S 1 k < mst k)) ∧ f' = f) := by
  have hc := hE.1 1 k (by decide) (by decide)
  have hr : 0 ≤ S 1 k ∧ S 1 k ≤ 24 := by
    obtain ⟨a0, a1, a2, a3, a4, a5, a6, -⟩ := hW
    rcases (show k = 0 ∨ k = 1 ∨ k = 2 ∨ k = 3 ∨ k = 4 ∨ k = 5 ∨ k = 6 by omega) with e | e | e | e | e | e | e <;> subst e <;> omega
  have hm : 0 ≤ mst k ∧ mst k ≤ 24 := by
    rcases (show k = 0 ∨ k = 1 ∨ k = 2 ∨ k = 3 ∨ k = 4 ∨ k = 5 ∨ k = 6 by omega) with e | e | e | e | e | e | e <;> subst e <;> decide
  refine OkB_of (L0 := [vr D h, vi k]) mi_gd_hasRoom rfl rfl (Nat.le_of_ble_eq_true rfl) (fun C hR => ?_)
  refine V_aload_0 d_gd_hasRoom_0 ?_
  refine V_getR d_gd_hasRoom_1 fl_gd_9 (is_gd hh) (r_gd_counts hh) ?_
  refine V_iload_1 d_gd_hasRoom_4 ?_
  refine V_iald d_gd_hasRoom_5 (is_gd_counts hh) (by omega) (by omega) ?_
  rw [hc]
  refine V_gets d_gd_hasRoom_6 fk_60 (fun U hU => hU.most) ?_
  refine V_iload_1 d_gd_hasRoom_9 ?_
  refine V_ialdX (v := vi (mst k)) d_gd_hasRoom_10 (fun U hU => hU.mostT) (by omega) (by decide) (by have := mst_at k.toNat (by omega); rw [Int.toNat_of_nonneg hk.1] at this; exact this) ?_
  refine V_icmp_ge 18 d_gd_hasRoom_11 (by decide) (by omega) (by omega) (fun c11 => ?_) (fun c11 => ?_)
  · skip
    refine V_iconst 0 d_gd_hasRoom_18 ?_
    refine V_ireturn d_gd_hasRoom_19 (hR _ _ (by decide) ?_)
    exact ⟨Or.inr ⟨rfl, by omega⟩, rfl⟩
  · skip
    refine V_iconst 1 d_gd_hasRoom_14 ?_
    refine V_goto 19 d_gd_hasRoom_15 (by decide) ?_
    refine V_ireturn d_gd_hasRoom_19 (hR _ _ (by decide) ?_)
    exact ⟨Or.inl ⟨rfl, by omega⟩, rfl⟩
theorem pW.cn (hW : pW S) {k : Int} (hk : 0 ≤ k ∧ k < 4) : 0 ≤ S 1 k ∧ S 1 k ≤ 8 := by
  obtain ⟨a0, a1, a2, a3, -⟩ := hW
  rcases (show k = 0 ∨ k = 1 ∨ k = 2 ∨ k = 3 by omega) with e | e | e | e <;> subst e <;> omega
theorem nmF_rg (c v : Int) : ∀ (m : Nat) (w : Int), 0 ≤ w → nmF S c v m w = -1 ∨ (w ≤ nmF S c v m w ∧ nmF S c v m w < w + m) := by
  intro m
  induction m with
  | zero => intro w _; exact Or.inl rfl
  | succ m ih =>
    intro w hw
    unfold nmF
    split
    · right; omega
    · rcases ih (w + 1) (by omega) with h | h
      · exact Or.inl h
      · right; omega
theorem nmS_rg (hW : pW S) {k : Int} (hk : 0 ≤ k ∧ k < 4) (v : Int) : -1 ≤ nmS S k v ∧ nmS S k v < S 1 k ∨ nmS S k v = -1 := by
  have := hW.cn hk
  unfold nmS
  rcases nmF_rg (S := S) (3 + k) v (S 1 k).toNat 0 (by decide) with h | h
  · exact Or.inr h
  · left; omega
theorem ok_named (hh : q_G h) (hE : cE h f S) (hW : pW S) {k v : Int} (hk : 0 ≤ k ∧ k < 4) (hv : 0 ≤ v ∧ v < 1073741824) : OkI D m_gd_named [vr D h, vi k, vi v] (Zg g h) f (fun x f' => x = nmS S k v ∧ f' = f) := by
  have hc := hE.1 1 k (by decide) (by decide)
  have hr := hW.cn hk
  refine OkI_of (L0 := [vr D h, vi k, vi v, vu]) mi_gd_named rfl rfl (Nat.le_of_ble_eq_true rfl) (fun C hR => ?_)
  have loop : ∀ (m : Nat) (w : Int), w + m = S 1 k → 0 ≤ w → nmF S (3 + k) v m w = nmS S k v → V D C m_gd_named 2 [vr D h, vi k, vi v, vi w] [] (Zg g h) f := by
    intro m
    induction m with
    | zero =>
      intro w hm h0 hs
      refine V_iload_3 d_gd_named_2 ?_
      refine V_aload_0 d_gd_named_3 ?_
      refine V_getR d_gd_named_4 fl_gd_9 (is_gd hh) (r_gd_counts hh) ?_
      refine V_iload_1 d_gd_named_7 ?_
      refine V_iald d_gd_named_8 (is_gd_counts hh) (by omega) (by omega) ?_
      rw [hc]
      refine V_icmp_ge 32 d_gd_named_9 (by decide) (by omega) (by omega) (fun c9 => ?_) (fun c9 => by omega)
      refine V_iconst (-1) d_gd_named_32 ?_
      refine V_ireturn d_gd_named_33 (hR _ _ ?_)
      exact ⟨hs, rfl⟩
    | succ m ih =>
      intro w hm h0 hs
      have hn := hE.1 (3 + k) w (by omega) (by omega)
      have hb := hW.2.2.2.2.2.2.2.1 k w hk.1 hk.2 h0 (by omega)
      unfold nmF at hs
      refine V_iload_3 d_gd_named_2 ?_
      refine V_aload_0 d_gd_named_3 ?_
      refine V_getR d_gd_named_4 fl_gd_9 (is_gd hh) (r_gd_counts hh) ?_
      refine V_iload_1 d_gd_named_7 ?_
      refine V_iald d_gd_named_8 (is_gd_counts hh) (by omega) (by omega) ?_
      rw [hc]
      refine V_icmp_ge 32 d_gd_named_9 (by decide) (by omega) (by omega) (fun c9 => by omega) (fun c9 => ?_)
      refine V_aload_0 d_gd_named_12 ?_
      refine V_getR d_gd_named_13 fl_gd_17 (is_gd hh) (r_gd_names hh) ?_
      refine V_iload_1 d_gd_named_16 ?_
      refine V_aald d_gd_named_17 (is_gd_names hh) (by omega) (by omega) (r_gd_namesrow hh (by omega)) ?_
      refine V_iload_3 d_gd_named_18 ?_
      refine V_iald d_gd_named_19 (is_gd_names_row hh (by omega)) (by omega) (by omega) ?_
      rw [show h + 3 + k = h + (3 + k) by omega, hn]
      refine V_iload_2 d_gd_named_20 ?_
      refine V_icmp_ne 26 d_gd_named_21 (by decide) (by omega) (by omega) (fun c21 => ?_) (fun c21 => ?_)
      · skip
        rw [if_neg c21] at hs
        refine V_iinc_3 d_gd_named_26 rfl ?_
        refine V_goto 2 d_gd_named_29 (by decide) ?_
        exact ih _ (by omega) (by omega) hs
      · skip
        rw [if_pos (by omega)] at hs
        refine V_iload_3 d_gd_named_24 ?_
        refine V_ireturn d_gd_named_25 (hR _ _ ?_)
        exact ⟨hs, rfl⟩
  refine V_iconst 0 d_gd_named_0 ?_
  refine V_istore_3 d_gd_named_1 rfl ?_
  exact loop (S 1 k).toNat _ (by omega) (by decide) rfl
theorem ok_isGiven (hh : q_G h) (hE : cE h f S) (hW : pW S) {v : Int} (hv : 0 ≤ v ∧ v < 1073741824) : OkI D m_gd_isGiven [vr D h, vi v] (Zg g h) f (fun x f' => ((x = 1 ∧ gvn S v = true) ∨ (x = 0 ∧ ¬ gvn S v = true)) ∧ f' = f) := by
  refine OkB_of (L0 := [vr D h, vi v, vu]) mi_gd_isGiven rfl rfl (Nat.le_of_ble_eq_true rfl) (fun C hR => ?_)
  have loop : ∀ (m : Nat) (k : Int), k + m = 4 → 0 ≤ k → (∀ i, 0 ≤ i → i < k → nmS S i v = -1) → V D C m_gd_isGiven 2 [vr D h, vi v, vi k] [] (Zg g h) f := by
    intro m
    induction m with
    | zero =>
      intro k hm h0 hs
      refine V_iload_2 d_gd_isGiven_2 ?_
      refine V_iconst 3 d_gd_isGiven_3 ?_
      refine V_icmp_gt 25 d_gd_isGiven_4 (by decide) (by omega) (by omega) (fun c4 => ?_) (fun c4 => by omega)
      refine V_iconst 0 d_gd_isGiven_25 ?_
      refine V_ireturn d_gd_isGiven_26 (hR _ _ (by decide) ?_)
      refine ⟨Or.inr ⟨rfl, ?_⟩, rfl⟩
      unfold gvn
      rw [hs 0 (by decide) (by omega), hs 1 (by decide) (by omega), hs 2 (by decide) (by omega), hs 3 (by decide) (by omega)]
      decide
    | succ m ih =>
      intro k hm h0 hs
      have hrg := nmS_rg hW (k := k) ⟨h0, by omega⟩ v
      have hr := hW.cn (k := k) ⟨h0, by omega⟩
      refine V_iload_2 d_gd_isGiven_2 ?_
      refine V_iconst 3 d_gd_isGiven_3 ?_
      refine V_icmp_gt 25 d_gd_isGiven_4 (by decide) (by omega) (by omega) (fun c4 => by omega) (fun c4 => ?_)
      refine V_aload_0 d_gd_isGiven_7 ?_
      refine V_iload_2 d_gd_isGiven_8 ?_
      refine V_iload_1 d_gd_isGiven_9 ?_
      refine V_cvI2 d_gd_isGiven_10 ml_gd_63 mv_gd_named (by decide) (Nat.le_of_ble_eq_true rfl) (is_gd hh) (ok_named hh hE hW (by omega) hv) ?_
      rintro _ f2 ⟨rfl, e2⟩
      rw [e2]; clear e2 f2
      refine V_iconst (-1) d_gd_isGiven_13 ?_
      refine V_icmp_eq 19 d_gd_isGiven_14 (by decide) (by omega) (by omega) (fun c14 => ?_) (fun c14 => ?_)
      · skip
        refine V_iinc_2 d_gd_isGiven_19 rfl ?_
        refine V_goto 2 d_gd_isGiven_22 (by decide) ?_
        exact ih _ (by omega) (by omega) (fun i i0 i1 => by
          by_cases e : i = k
          · rw [e]; exact c14
          · exact hs i i0 (by omega))
      · skip
        refine V_iconst 1 d_gd_isGiven_17 ?_
        refine V_ireturn d_gd_isGiven_18 (hR _ _ (by decide) ?_)
        refine ⟨Or.inl ⟨rfl, ?_⟩, rfl⟩
        unfold gvn
        rw [Bool.not_eq_true', Bool.and_eq_false_iff, Bool.and_eq_false_iff, Bool.and_eq_false_iff, decide_eq_false_iff_not, decide_eq_false_iff_not, decide_eq_false_iff_not, decide_eq_false_iff_not]
        rcases (show k = 0 ∨ k = 1 ∨ k = 2 ∨ k = 3 by omega) with e | e | e | e <;> subst e
        · exact Or.inl c14
        · exact Or.inr (Or.inl c14)
        · exact Or.inr (Or.inr (Or.inl c14))
        · exact Or.inr (Or.inr (Or.inr c14))
  refine V_iconst 0 d_gd_isGiven_0 ?_
  refine V_istore_2 d_gd_isGiven_1 rfl ?_
  exact loop 4 _ (by decide) (by decide) (fun i a b => by omega)
theorem ok_addNamed (hh : q_G h) (hE : cE h f S) (hW : pW S) {k v : Int} (hk : 0 ≤ k ∧ k < 4) (hroom : S 1 k < mst k) : OkV D m_gd_addNamed [vr D h, vi k, vi v] (Zg g h) f (fun f' => cE h f' (addN S k v) ∧ sK h f f' ∧ cK f' f' ∧ ∀ j i, j = 1 ∨ j = 2 ∨ j = 4 ∨ j = 5 → f' j i = f j i) := by
  have hg2 := q_G51 hh
  have hc := hE.1 1 k (by decide) (by decide)
  have hr := hW.cn hk
  have hm : mst k ≤ 8 := by
    rcases (show k = 0 ∨ k = 1 ∨ k = 2 ∨ k = 3 by omega) with e | e | e | e <;> subst e <;> decide
  refine OkV_of (L0 := [vr D h, vi k, vi v]) mi_gd_addNamed rfl rfl (Nat.le_of_ble_eq_true rfl) (fun C hR => ?_)
  refine V_aload_0 d_gd_addNamed_0 ?_
  refine V_iload_1 d_gd_addNamed_1 ?_
  refine V_cvI1 d_gd_addNamed_2 ml_gd_67 mv_gd_hasRoom (by decide) (Nat.le_of_ble_eq_true rfl) (is_gd hh) (ok_hasRoom hh hE hW (by omega)) ?_
  rintro x2 f2 ⟨hx2, e2⟩
  rw [e2]; clear e2 f2
  refine V_if_eq 32 d_gd_addNamed_5 (by decide) (by rcases hx2 with h | h <;> omega) (fun c5 => ?_) (fun c5 => ?_)
  · skip
    exact absurd hroom (q_b0 hx2 c5)
  · skip
    refine V_aload_0 d_gd_addNamed_8 ?_
    refine V_getR d_gd_addNamed_9 fl_gd_17 (is_gd hh) (r_gd_names hh) ?_
    refine V_iload_1 d_gd_addNamed_12 ?_
    refine V_aald d_gd_addNamed_13 (is_gd_names hh) (by omega) (by omega) (r_gd_namesrow hh (by omega)) ?_
    refine V_aload_0 d_gd_addNamed_14 ?_
    refine V_getR d_gd_addNamed_15 fl_gd_9 (is_gd hh) (r_gd_counts hh) ?_
    refine V_iload_1 d_gd_addNamed_18 ?_
    refine V_iald d_gd_addNamed_19 (is_gd_counts hh) (by omega) (by omega) ?_
    rw [hc]
    refine V_iload_2 d_gd_addNamed_20 ?_
    refine V_iast d_gd_addNamed_21 (is_gd_names_row hh (by omega)) (by omega) (by omega) ?_
    refine V_aload_0 d_gd_addNamed_22 ?_
    refine V_getR d_gd_addNamed_23 fl_gd_9 (is_gd hh) (r_gd_counts hh) ?_
    refine V_iload_1 d_gd_addNamed_26 ?_
    refine V_dup2 d_gd_addNamed_27 rfl rfl ?_
    refine V_iald d_gd_addNamed_28 (is_gd_counts hh) (by omega) (by omega) ?_
    rw [q_up_at (by omega), hc]
    refine V_iconst 1 d_gd_addNamed_29 ?_
    refine V_iadd d_gd_addNamed_30 ?_
    refine V_iast d_gd_addNamed_31 (is_gd_counts hh) (by omega) (by omega) ?_
    refine V_return d_gd_addNamed_32 (hR _ ?_)
    have e1 := (hE.up hh (j := 3 + k) (by omega) (by omega) (S 1 k) v).up hh (j := 1) (by decide) (by decide) k (S 1 k + 1)
    rw [show h + (3 + k) = h + 3 + k by omega] at e1
    exact ⟨e1, fun a b c d e => by rw [q_up_at (by omega), q_up_at (by omega)], cK.refl _, fun a b c => by rw [q_up_at (by omega), q_up_at (by omega)]⟩
/-- a number into a row of the guild -/
def cS (h : Int) (f f' : q_F) (T : Int → Int) (N x : Int) (L : List Int) (r : q_R (q_F × Int × Int)) : Prop := match r with
  | .inl e => x = 0 ∧ f' 1 3 = e.1 ∧ f' 1 4 = e.2 ∧ sK h f f'
  | .inr s => x = 1 ∧ tpS f' T N s.2.1 s.2.2 ∧ cE h f' s.1 ∧ cdS f' L ∧ f' 1 3 = f 1 3 ∧ f' 1 4 = f 1 4 ∧ sK h f f'
/-- the class in the middle of a text -/
def cM (h : Int) (f S : q_F) (T : Int → Int) (N p e : Int) (L : List Int) : Prop := tpS f T N p e ∧ cE h f S ∧ cdS f L
theorem cM.ck (hh : q_G h) {L : List Int} {p' e' : Int} (hC : cM h f S T N p e L) (hk : cK f f') (hT : tpS f' T N p' e') : cM h f' S T N p' e' L := ⟨hT, hC.2.1.ck hh hk, hC.2.2.fr hk⟩
def sNum (S : q_F) (T : Int → Int) (N j k lo hi p e : Int) : q_R (q_F × Int × Int) := rb (l_num T N lo hi p e) (fun s => .inr (q_up S j k s.1, s.2.1, s.2.2))
theorem ok_readNumber (hh : q_G h) {L : List Int} (hC : cM h f S T N p e L) {j k lo hi n : Int} (hj : 0 ≤ j ∧ j < 84) (hc : q_ce 274 (h + j) 20 n) (hk : 0 ≤ k ∧ k < n) (hn : n < 2147483648) (hl : -2147483648 ≤ lo ∧ lo < 2147483648) (hhi : -2147483648 ≤ hi ∧ hi < 2147483648) : OkI D m_gr_readNumber [vr D 3, vr D (h + j), vi k, vi lo, vi hi] (Zg g h) f (fun x f' => cS h f f' T N x L (sNum S T N j k lo hi p e)) := by
  have hg2 := q_G51 hh
  unfold sNum
  refine OkB_of (L0 := [vr D 3, vr D (h + j), vi k, vi lo, vi hi]) mi_gr_readNumber rfl rfl (Nat.le_of_ble_eq_true rfl) (fun C hR => ?_)
  cases hn2 : l_num T N lo hi p e with
  | inl e0 =>
    refine V_aload_0 d_gr_readNumber_0 ?_
    refine V_getR d_gr_readNumber_1 fl_gr_9 is_gr r_gr_tape ?_
    refine V_iload_3 d_gr_readNumber_4 ?_
    refine V_iload_4 d_gr_readNumber_5 ?_
    refine V_cvI2 d_gr_readNumber_7 ml_gr_155 mv_tp_takeNumber (by decide) (Nat.le_of_ble_eq_true rfl) is_tp (ok_takeNumber hC.1 hl hhi) ?_
    rintro x F hx
    obtain ⟨rfl, b1, b2, b3⟩ := cV_inl hx hn2
    refine V_if_ne 15 d_gr_readNumber_10 (by decide) (by omega) (fun c10 => by omega) (fun c10 => ?_)
    refine V_iconst 0 d_gr_readNumber_13 ?_
    refine V_ireturn d_gr_readNumber_14 (hR _ _ (by decide) ?_)
    rw [hn2]
    exact ⟨rfl, b1, b2, b3.s⟩
  | inr s =>
    obtain ⟨v, q, d⟩ := s
    refine V_aload_0 d_gr_readNumber_0 ?_
    refine V_getR d_gr_readNumber_1 fl_gr_9 is_gr r_gr_tape ?_
    refine V_iload_3 d_gr_readNumber_4 ?_
    refine V_iload_4 d_gr_readNumber_5 ?_
    refine V_cvI2 d_gr_readNumber_7 ml_gr_155 mv_tp_takeNumber (by decide) (Nat.le_of_ble_eq_true rfl) is_tp (ok_takeNumber hC.1 hl hhi) ?_
    rintro x F hx
    obtain ⟨rfl, t3, a6, a5, a3, a4, k3⟩ := cV_inr hx hn2
    refine V_if_ne 15 d_gr_readNumber_10 (by decide) (by omega) (fun c10 => ?_) (fun c10 => by omega)
    refine V_aload_1 d_gr_readNumber_15 ?_
    refine V_iload_2 d_gr_readNumber_16 ?_
    refine V_aload_0 d_gr_readNumber_17 ?_
    refine V_getR d_gr_readNumber_18 fl_gr_9 is_gr r_gr_tape ?_
    refine V_getI d_gr_readNumber_21 fl_gr_149 is_tp ?_
    rw [a6]
    refine V_iast d_gr_readNumber_24 hc (by omega) (by omega) ?_
    refine V_iconst 1 d_gr_readNumber_25 ?_
    refine V_ireturn d_gr_readNumber_26 (hR _ _ (by decide) ?_)
    rw [hn2]
    exact ⟨rfl, t3.up hh hj.1 k v, (hC.2.1.ck hh k3).up hh hj.1 hj.2 k v, ⟨by rw [q_up_at (by omega)]; exact (hC.2.2.fr k3).1, fun i hi => by rw [q_up_at (by omega)]; exact (hC.2.2.fr k3).2 i hi⟩, by rw [q_up_at (by omega)]; exact a3, by rw [q_up_at (by omega)]; exact a4, sK.up k3.s hj.1 hj.2 k v⟩
end STM
