/-! ways: all bodies, shade by shade -/
def a7 : Int → Int := fun _ => -7
/-- in how many ways the first h shades and the persons can have a set of the n chosen ones -/
def Tw (A : q_As) (c : Int → Int) (l : Int) (n h : Nat) (q : Int → Bool) : Int := SA (fun x y : Int => x + y) (fun x y : Int => x * y) 0 1 true (okS A c l) (smS A c) (cmS A c) (fun _ _ => 1) h q n 0 a7
/-- the least cost of a crew of the first h shades -/
def Tc (A : q_As) (c : Int → Int) (l : Int) (n h : Nat) (q : Int → Bool) : Option Int := SA tad tml none (some 0) false (okS A c l) (smS A c) (cmS A c) (wtS A c 1) h q n 0 a7
section HS13
variable {D : q_D} {f f' : q_F} {A : q_As} {g h : Int}
theorem lfo_eq {R : Type} {ad : R → R → R} {ze : R} {F G : Nat → R} : ∀ l : List Nat, (∀ y, y ∈ l → F y = G y) → lfo ad ze F l = lfo ad ze G l := by
  intro l
  induction l with
  | nil => intro _; rfl
  | cons x l ih =>
    intro hh
    rw [lfo, lfo, hh x (List.mem_cons_self ..), ih (fun y hy => hh y (List.mem_cons_of_mem _ hy))]
theorem subs_all : ∀ s : Nat, s < 256 → (subs 8 s 0).all (fun y => y &&& s == y) = true := by decide +kernel
theorem subs_in {s y : Nat} (hs : s < 256) (hy : y ∈ subs 8 s 0) : y &&& s = y := by
  have := List.all_eq_true.mp (subs_all s hs) y hy
  simpa using this
theorem bt_0 : bt ((0 : Nat) : Int) = fun _ => false := by
  funext j; unfold bt; simp
theorem bt_sub {s y : Nat} (h : y &&& s = y) : (fun j => bt s j && !bt y j) = bt ((s ^^^ y : Nat) : Int) := by
  rw [bt_xor]
  funext j
  unfold bt
  cases decide (0 ≤ j)
  · rfl
  · show (s.testBit j.toNat && !y.testBit j.toNat) = (s.testBit j.toNat ^^ y.testBit j.toNat)
    have := congrArg (fun n => n.testBit j.toNat) h
    simp only [Nat.testBit_and] at this
    cases h1 : s.testBit j.toNat <;> cases h2 : y.testBit j.toNat <;> simp_all
theorem SS_pad {R : Type} {ad ml : R → R → R} {ze on : R} (hs : q_sr ad ml ze on) {q : Int → Bool} {F : (Int → Bool) → R} {n : Nat} (hq : ∀ j : Int, (n : Int) ≤ j → q j = false) (o : Int → Bool) : ∀ d : Nat, SS ad q F (n + d) 0 o = SS ad q F n 0 o := by
  intro d
  induction d with
  | zero => rfl
  | succ d ih =>
    rw [← Nat.add_assoc, SS_top hs, hq _ (by omega), if_neg (by decide)]
    exact ih
/-- one more body, as a sum over the subsets of a set told as a number -/
theorem SA_subs {R : Type} {ad ml : R → R → R} {ze on : R} (hs : q_sr ad ml ze on) {pw : Bool} {ok : Int → Int → Bool} {sm : Int → Int → Int → Bool} {cm : Int → Int → Bool} {wt : Int → Int → R} {h n s : Nat} (h9 : h < 9) (n8 : n ≤ 8) (hsn : (s : Int) < 2 ^ n) : SA ad ml ze on pw ok sm cm wt (h + 1) (bt s) n 0 a7 = lfo ad ze (fun y => ml (PC ml ze on ok sm cm wt h n (bt y)) (SA ad ml ze on pw ok sm cm wt h (bt ((s ^^^ y : Nat) : Int)) n 0 a7)) (subs 8 s 0) := by
  have h2 := p2_rg n8
  have hs8 : s < 256 := by omega
  obtain ⟨d, hd⟩ := Nat.le.dest n8
  rw [SA_succ hs h9 (bt s) n 0 a7 (fun j _ => rfl), ← bt_0, ← SS_pad hs (n := n) (fun j hj => bt_hi (by omega) hsn hj) (bt ((0 : Nat) : Int)) d, hd, lfo_SS hs]
  refine lfo_eq _ (fun y hy => ?_)
  have e := PC_PT hs (ok := ok) (sm := sm) (cm := cm) (wt := wt) (h := (h : Int)) (by omega) (bt y) n 0 a7 (fun j j0 => by unfold a7; constructor <;> intro e <;> omega)
  rw [Nat.zero_add] at e
  rw [e, bt_sub (subs_in hs8 hy)]
  show _ = ml (ml on _) _
  rw [hs.2.2.2.2.2.2.1]
theorem SA_0 {R : Type} {ad ml : R → R → R} {ze on : R} {ok : Int → Int → Bool} {sm : Int → Int → Int → Bool} {cm : Int → Int → Bool} {wt : Int → Int → R} (q : Int → Bool) : ∀ (m k : Nat) (a : Int → Int), SA ad ml ze on true ok sm cm wt 0 q m k a = PT ml ze on ok sm cm wt 9 q m k a := by
  intro m
  induction m with
  | zero => intro k a; rfl
  | succ m ih =>
    intro k a
    rw [SA, PT, SB, if_pos rfl, ih, ih]
theorem Tw_0 (c : Int → Int) (l : Int) (n : Nat) (q : Int → Bool) : Tw A c l n 0 q = PCi A c l 9 n q := by
  unfold Tw PCi
  have e := PC_PT i_sr (ok := okS A c l) (sm := smS A c) (cm := cmS A c) (wt := fun _ _ => (1 : Int)) (h := 9) (by decide) q n 0 a7 (fun j j0 => by unfold a7; constructor <;> intro e <;> omega)
  rw [Nat.zero_add] at e
  rw [SA_0, e]
  show _ = 1 * _
  rw [Int.one_mul]
theorem Tw_succ (c : Int → Int) (l : Int) {n h s : Nat} (h9 : h < 9) (n8 : n ≤ 8) (hsn : (s : Int) < 2 ^ n) : Tw A c l n (h + 1) (bt s) = lfo (fun x y : Int => x + y) 0 (fun y => if PCt A c l 0 h n (bt y) = none then 0 else Tw A c l n h (bt ((s ^^^ y : Nat) : Int))) (subs 8 s 0) := by
  unfold Tw
  rw [SA_subs i_sr h9 n8 hsn]
  refine lfo_eq _ (fun y _ => ?_)
  have := PCi_t (A := A) c l h n (bt y)
  unfold PCi at this
  show PC _ _ _ _ _ _ _ _ _ _ * _ = _
  rw [this]
  split
  · rw [Int.zero_mul]
  · rw [Int.one_mul]
theorem PCt_no (hF : Wf A) {c : Int → Int} {l w b : Int} {n : Nat} (hb : 0 ≤ b ∧ b < A 0 2 0) (hc : ∀ j : Int, 0 ≤ j → j < n → 0 ≤ c j ∧ c j < A 0 4 0) (o : Int → Bool) : enc (PCt A c l w b n o) = -1 ↔ PCt A c l w b n o = none := by
  rcases PCt_rg hF hb (l := l) (w := w) n o hc with e | ⟨v, e, v0, v1⟩
  · rw [e]; simp [enc]
  · rw [e]; simp [enc]; omega
theorem ok_sets {n : Nat} (h1 : f 45 1 = n) (n8 : n ≤ 8) : OkI D m_cr_sets [vr D 45] (Zg g h) f (fun x f' => x = 2 ^ n ∧ f' = f) := by
  refine OkI_of (L0 := [vr D 45]) mi_cr_sets rfl rfl (Nat.le_of_ble_eq_true rfl) (fun C hR => ?_)
  refine V_iconst 1 d_cr_sets_0 ?_
  refine V_aload_0 d_cr_sets_1 ?_
  refine V_getI d_cr_sets_2 fl_cr_30 is_cr ?_
  rw [h1]
  refine V_ishl d_cr_sets_5 ?_
  refine V_ireturn d_cr_sets_6 (hR _ _ ?_)
  exact ⟨q_shl1 (by omega), rfl⟩
theorem ok_countWays (hS : Cst g f A) (hF : Wf A) {c : Int → Int} {n : Nat} (hc : q_cho f A c n) {l : Int} (hl : -2147483648 ≤ l ∧ l < 2147483648) : OkI D m_cr_countWays [vr D 45, vr D g, vr D 10, vi l] (Zg g h) f (fun x f' => x = Tw A c l n (A 0 2 0).toNat (bt (2 ^ n - 1)) ∧ ∀ j i, ¬ (j = 48 ∨ j = 49) → f' j i = f j i) := by
  have hn := hF.nn
  have hg := hS.1
  have hG := hS.2.1
  have hg2 := q_G51 hg
  obtain ⟨n1, n8, n3, n4⟩ := hc
  have h2 := p2_rg n8
  refine OkI_of (L0 := [vr D 45, vr D g, vr D 10, vi l, vu, vu]) mi_cr_countWays rfl rfl (Nat.le_of_ble_eq_true rfl) (fun C hR => ?_)
  have inner : ∀ (m : Nat) (s : Int) (k : Nat) (F : q_F), (k : Int) < A 0 2 0 → s + 1 = m → s < 2 ^ n → (∀ j i, ¬ (j = 48 ∨ j = 49) → F j i = f j i) → (∀ x, 0 ≤ x → x < 2 ^ n → F 49 x = enc (PCt A c l 0 k n (bt x))) → (∀ x, 0 ≤ x → x ≤ s → F 48 x = Tw A c l n k (bt x)) → (∀ x, s < x → x < 2 ^ n → F 48 x = Tw A c l n (k + 1) (bt x)) → (∀ F', (∀ j i, ¬ (j = 48 ∨ j = 49) → F' j i = f j i) → (∀ x, 0 ≤ x → x < 2 ^ n → F' 48 x = Tw A c l n (k + 1) (bt x)) → V D C m_cr_countWays 61 [vr D 45, vr D g, vr D 10, vi l, vi k, vi (-1)] [] (Zg g h) F') → V D C m_cr_countWays 37 [vr D 45, vr D g, vr D 10, vi l, vi k, vi s] [] (Zg g h) F := by
    intro m
    induction m with
    | zero =>
      intro s k F hk hm hs hf hp hlo hhi K
      have es : s = -1 := by omega
      subst es
      refine V_iload_5 d_cr_countWays_37 ?_
      refine V_if_lt 61 d_cr_countWays_39 (by decide) (by omega) (fun c39 => ?_) (fun c39 => by omega)
      exact K F hf (fun x x0 x1 => hhi x (by omega) x1)
    | succ m ih =>
      intro s k F hk hm hs hf hp hlo hhi K
      have h0 : 0 ≤ s := by omega
      obtain ⟨t, rfl⟩ := Int.eq_ofNat_of_zero_le h0
      have key : lfo (fun a b : Int => a + b) 0 (fun y => if F 49 y = -1 then 0 else F 48 ((t ^^^ y : Nat) : Int)) (subs 8 t 0) = Tw A c l n (k + 1) (bt t) := by
        rw [Tw_succ c l (by omega) n8 hs]
        refine lfo_eq _ (fun y hy => ?_)
        have hle := sub_le (subs_in (show t < 256 by omega) hy)
        rw [hp y (by omega) (by omega), hlo _ (by omega) (by omega)]
        have := PCt_no hF (l := l) (w := 0) (b := (k : Int)) ⟨by omega, hk⟩ n4 (bt y)
        by_cases e : PCt A c l 0 k n (bt y) = none
        · rw [if_pos e, if_pos (this.mpr e)]
        · rw [if_neg e, if_neg (fun e2 => e (this.mp e2))]
      refine V_iload_5 d_cr_countWays_37 ?_
      refine V_if_lt 61 d_cr_countWays_39 (by decide) (by omega) (fun c39 => by omega) (fun c39 => ?_)
      refine V_aload_0 d_cr_countWays_42 ?_
      refine V_getR d_cr_countWays_43 fl_cr_18 is_cr r_cr_table ?_
      refine V_iload_5 d_cr_countWays_46 ?_
      refine V_aload_0 d_cr_countWays_48 ?_
      refine V_iload_5 d_cr_countWays_49 ?_
      refine V_cvI1 d_cr_countWays_51 ml_cr_51 mv_cr_waysWithPart (by decide) (Nat.le_of_ble_eq_true rfl) is_cr (ok_waysWithPart (by omega) (fun y hy => by
      rw [hp y (by omega) (by omega)]
      rcases PCt_rg hF (c := c) (l := l) (w := 0) (b := (k : Int)) ⟨by omega, hk⟩ n (bt y) n4 with e | ⟨v, e, v0, v1⟩
      · rw [e]; decide
      · rw [e]; show -1 ≤ v ∧ v < 2147483648; omega)) ?_
      rintro _ f2 ⟨rfl, e2⟩
      rw [e2]; clear e2 f2
      rw [key]
      refine V_iast d_cr_countWays_54 is_cr_table (by omega) (by omega) ?_
      refine V_iinc_5 d_cr_countWays_55 rfl ?_
      refine V_goto 37 d_cr_countWays_58 (by decide) ?_
      refine ih _ k _ hk (by omega) (by omega) (fun j i hj => by rw [q_up_at (by omega)]; exact hf j i hj) (fun x x0 x1 => by rw [q_up_at (by decide)]; exact hp x x0 x1) (fun x x0 x1 => by rw [q_up_ne (Or.inr (by omega))]; exact hlo x x0 (by omega)) (fun x x0 x1 => ?_) K
      by_cases e : x = t
      · rw [q_up_is e, e]
      · rw [q_up_ne (Or.inr e)]; exact hhi x (by omega) x1
  have outer : ∀ (m k : Nat) (a5 : Value) (F : q_F), ((k + m : Nat) : Int) = A 0 2 0 → (∀ j i, ¬ (j = 48 ∨ j = 49) → F j i = f j i) → (∀ x, 0 ≤ x → x < 2 ^ n → F 48 x = Tw A c l n k (bt x)) → V D C m_cr_countWays 8 [vr D 45, vr D g, vr D 10, vi l, vi k, a5] [] (Zg g h) F := by
    intro m
    induction m with
    | zero =>
      intro k a5 F hk hf ht
      have e2 : F (g + 1) 2 = A 0 2 0 := by rw [hf _ _ (by omega)]; exact hG.1 2 (by decide) (by decide)
      have e1 : F 45 1 = n := by rw [hf _ _ (by omega)]; exact n1
      refine V_iload_4 d_cr_countWays_8 ?_
      refine V_aload_1 d_cr_countWays_10 ?_
      refine V_getR d_cr_countWays_11 fl_cr_38 (is_gd hg) (r_gd_counts hg) ?_
      refine V_iconst 2 d_cr_countWays_14 ?_
      refine V_iald d_cr_countWays_15 (is_gd_counts hg) (by omega) (by omega) ?_
      rw [e2]
      refine V_icmp_ge 67 d_cr_countWays_16 (by decide) (by omega) (by omega) (fun c16 => ?_) (fun c16 => by omega)
      refine V_aload_0 d_cr_countWays_67 ?_
      refine V_getR d_cr_countWays_68 fl_cr_18 is_cr r_cr_table ?_
      refine V_aload_0 d_cr_countWays_71 ?_
      refine V_cvI0 d_cr_countWays_72 ml_cr_47 mv_cr_sets (by decide) (Nat.le_of_ble_eq_true rfl) is_cr (ok_sets e1 n8) ?_
      rintro _ f2 ⟨rfl, e2⟩
      rw [e2]; clear e2 f2
      refine V_iconst 1 d_cr_countWays_75 ?_
      refine V_isub d_cr_countWays_76 ?_
      refine V_iald d_cr_countWays_77 is_cr_table (by omega) (by omega) ?_
      rw [ht _ (by omega) (by omega)]
      refine V_ireturn d_cr_countWays_78 (hR _ _ ?_)
      exact ⟨by rw [show (A 0 2 0).toNat = k by omega], hf⟩
    | succ m ih =>
      intro k a5 F hk hf ht
      have e2 : F (g + 1) 2 = A 0 2 0 := by rw [hf _ _ (by omega)]; exact hG.1 2 (by decide) (by decide)
      have hSF : Cst g F A := hS.scr hF (fun j i hj => hf j i (by omega))
      have hcF : q_cho F A c n := ⟨by rw [hf _ _ (by omega)]; exact n1, n8, fun j a b => by rw [hf _ _ (by omega)]; exact n3 j a b, n4⟩
      have K : ∀ F', (∀ j i, ¬ (j = 48 ∨ j = 49) → F' j i = f j i) → (∀ x, 0 ≤ x → x < 2 ^ n → F' 48 x = Tw A c l n (k + 1) (bt x)) → V D C m_cr_countWays 61 [vr D 45, vr D g, vr D 10, vi l, vi k, vi (-1)] [] (Zg g h) F' := by
        intro F' hf' ht'
        refine V_iinc_4 d_cr_countWays_61 rfl ?_
        refine V_goto 8 d_cr_countWays_64 (by decide) ?_
        exact ih (k + 1) _ F' (by omega) hf' ht'
      refine V_iload_4 d_cr_countWays_8 ?_
      refine V_aload_1 d_cr_countWays_10 ?_
      refine V_getR d_cr_countWays_11 fl_cr_38 (is_gd hg) (r_gd_counts hg) ?_
      refine V_iconst 2 d_cr_countWays_14 ?_
      refine V_iald d_cr_countWays_15 (is_gd_counts hg) (by omega) (by omega) ?_
      rw [e2]
      refine V_icmp_ge 67 d_cr_countWays_16 (by decide) (by omega) (by omega) (fun c16 => by omega) (fun c16 => ?_)
      refine V_aload_0 d_cr_countWays_19 ?_
      refine V_aload_1 d_cr_countWays_20 ?_
      refine V_aload_2 d_cr_countWays_21 ?_
      refine V_iload_4 d_cr_countWays_22 ?_
      refine V_iload_3 d_cr_countWays_24 ?_
      refine V_iconst 0 d_cr_countWays_25 ?_
      refine V_cvV5 d_cr_countWays_26 ml_cr_43 mv_cr_fillPart (by decide) (Nat.le_of_ble_eq_true rfl) is_cr (ok_fillPart hSF hF hcF (by omega) hl (Or.inl rfl)) ?_
      rintro F1 ⟨hf1, hp1⟩
      have hf2 : ∀ j i, ¬ (j = 48 ∨ j = 49) → F1 j i = f j i := fun j i hj => by rw [hf1 j i (by omega)]; exact hf j i hj
      have e1 : F1 45 1 = n := by rw [hf2 _ _ (by omega)]; exact n1
      refine V_aload_0 d_cr_countWays_29 ?_
      refine V_cvI0 d_cr_countWays_30 ml_cr_47 mv_cr_sets (by decide) (Nat.le_of_ble_eq_true rfl) is_cr (ok_sets e1 n8) ?_
      rintro _ f2 ⟨rfl, e2⟩
      rw [e2]; clear e2 f2
      refine V_iconst 1 d_cr_countWays_33 ?_
      refine V_isub d_cr_countWays_34 ?_
      refine V_istore_5 d_cr_countWays_35 rfl ?_
      exact inner (2 ^ n : Int).toNat _ k F1 (by omega) (by omega) (by omega) hf2 hp1 (fun x x0 x1 => by rw [hf1 _ _ (by decide)]; exact ht x x0 (by omega)) (fun x x0 x1 => by omega) K
  refine V_aload_0 d_cr_countWays_0 ?_
  refine V_aload_1 d_cr_countWays_1 ?_
  refine V_cvV1 d_cr_countWays_2 ml_cr_34 mv_cr_fillWithPersons (by decide) (Nat.le_of_ble_eq_true rfl) is_cr (ok_fillWithPersons hS hF ⟨n1, n8, n3, n4⟩ l) ?_
  rintro F ⟨hf, ht⟩
  refine V_iconst 0 d_cr_countWays_5 ?_
  refine V_istore_4 d_cr_countWays_6 rfl ?_
  exact outer (A 0 2 0).toNat 0 _ F (by omega) (fun j i hj => hf j i (by omega)) (fun x x0 x1 => by rw [ht x x0 x1, Tw_0])
end HS13
