/-! crews: the cheapest -/
section HS14
variable {D : q_D} {f f' : q_F} {A : q_As} {g h : Int}
theorem SA_f0 {R : Type} {ad ml : R → R → R} {ze on : R} {ok : Int → Int → Bool} {sm : Int → Int → Int → Bool} {cm : Int → Int → Bool} {wt : Int → Int → R} (q : Int → Bool) : ∀ (m k : Nat) (a : Int → Int), ((∀ j : Int, k ≤ j → j < k + m → q j = false) → SA ad ml ze on false ok sm cm wt 0 q m k a = on) ∧ (∀ j : Int, k ≤ j → j < k + m → q j = true → SA ad ml ze on false ok sm cm wt 0 q m k a = ze) := by
  intro m
  induction m with
  | zero => intro k a; exact ⟨fun _ => rfl, fun j a b => by omega⟩
  | succ m ih =>
    intro k a
    obtain ⟨h1, h2⟩ := ih (k + 1) a
    constructor
    · intro hq
      rw [SA, hq k (by omega) (by omega), if_neg (by decide)]
      exact h1 (fun j a b => hq j (by omega) (by omega))
    · intro j j0 j1 hj
      rw [SA]
      cases hk : q k
      · rw [if_neg (by decide)]
        refine h2 j ?_ (by omega) hj
        by_cases e : j = k
        · rw [e, hk] at hj; cases hj
        · omega
      · rw [if_pos rfl]; rfl
theorem Tc_0 (c : Int → Int) (l : Int) {n : Nat} (n8 : n ≤ 8) {x : Int} (x0 : 0 ≤ x) (x1 : x < 2 ^ n) : Tc A c l n 0 (bt x) = if x = 0 then some 0 else none := by
  have h2 := p2_rg n8
  obtain ⟨h3, h4⟩ := SA_f0 (ad := tad) (ml := tml) (ze := none) (on := some (0 : Int)) (ok := okS A c l) (sm := smS A c) (cm := cmS A c) (wt := wtS A c 1) (bt x) n 0 a7
  unfold Tc
  by_cases e : x = 0
  · rw [if_pos e]
    refine h3 (fun j _ _ => ?_)
    rw [e]; exact congrFun bt_0 j
  · rw [if_neg e]
    have : ¬ ∀ i, 0 ≤ i → i < 31 → bt x i = false := fun hh => by
      have h5 := (mB_is0 _).mpr hh
      rw [mB_bt2 x0 (by omega)] at h5
      exact e h5
    have ⟨j, hj⟩ : ∃ j, ¬ (0 ≤ j → j < 31 → bt x j = false) := Classical.not_forall.mp this
    have hb : 0 ≤ j ∧ bt x j = true := by
      cases hx : bt x j
      · exact absurd (fun _ _ => hx) hj
      · refine ⟨?_, rfl⟩
        unfold bt at hx
        rw [Bool.and_eq_true, decide_eq_true_iff] at hx
        exact hx.1
    refine h4 j (by omega) ?_ hb.2
    rcases Int.lt_or_le j n with e2 | e2
    · omega
    · rw [bt_hi x0 x1 e2] at hb; cases hb.2
theorem tad_or (x y : Option Int) : tad x y = x ∨ tad x y = y := by
  cases x with
  | none => exact Or.inr rfl
  | some a =>
    cases y with
    | none => exact Or.inl rfl
    | some b =>
      show some (min a b) = some a ∨ some (min a b) = some b
      by_cases e : a ≤ b
      · left; rw [Int.min_eq_left e]
      · right; rw [Int.min_eq_right (by omega)]
theorem SB_in {F : Int → Option Int} : ∀ (h : Nat) (v : Int), SB tad none false h F = some v → ∃ b : Int, 0 ≤ b ∧ b < h ∧ F b = some v := by
  intro h
  induction h with
  | zero => intro v hv; rw [SB] at hv; cases hv
  | succ h ih =>
    intro v hv
    rw [SB] at hv
    rcases tad_or (SB tad none false h F) (F h) with e | e
    · rw [e] at hv
      obtain ⟨b, b0, b1, b2⟩ := ih v hv
      exact ⟨b, b0, by omega, b2⟩
    · rw [e] at hv; exact ⟨h, by omega, by omega, hv⟩
theorem Tc_rg (hF : Wf A) {c : Int → Int} {l : Int} {n h : Nat} (hc : ∀ j : Int, 0 ≤ j → j < n → 0 ≤ c j ∧ c j < A 0 4 0) (hh : (h : Int) ≤ A 0 2 0) (q : Int → Bool) : ∀ (m k : Nat) (a : Int → Int), k + m ≤ n → ∀ v, SA tad tml none (some 0) false (okS A c l) (smS A c) (cmS A c) (wtS A c 1) h q m k a = some v → 0 ≤ v ∧ v ≤ 78125000 * m := by
  intro m
  induction m with
  | zero =>
    intro k a _ v hv
    have : (0 : Int) = v := Option.some.inj hv
    omega
  | succ m ih =>
    intro k a hk v hv
    rw [SA] at hv
    split at hv
    · obtain ⟨b, b0, b1, b2⟩ := SB_in h v hv
      split at b2
      · obtain ⟨w, w1, w2, w3⟩ := wt_rg hF (w := 1) (b := b) ⟨b0, by omega⟩ (hc k (by omega) (by omega))
        rw [w1] at b2
        cases hu : SA tad tml none (some 0) false (okS A c l) (smS A c) (cmS A c) (wtS A c 1) h q m (k + 1) (upA a k b) with
        | none => rw [hu] at b2; cases b2
        | some u =>
          rw [hu] at b2
          have h1 := ih (k + 1) _ (by omega) u hu
          have : w + u = v := Option.some.inj b2
          omega
      · cases b2
    · have := ih (k + 1) a (by omega) v hv
      omega
theorem Tc_succ (c : Int → Int) (l : Int) {n h s : Nat} (h9 : h < 9) (n8 : n ≤ 8) (hsn : (s : Int) < 2 ^ n) : Tc A c l n (h + 1) (bt s) = lfo tad none (fun y => tml (PCt A c l 1 h n (bt y)) (Tc A c l n h (bt ((s ^^^ y : Nat) : Int)))) (subs 8 s 0) := by
  unfold Tc
  rw [SA_subs t_sr h9 n8 hsn]; rfl
theorem ok_findCheapest (hS : Cst g f A) (hF : Wf A) {c : Int → Int} {n : Nat} (hc : q_cho f A c n) {l : Int} (hl : -2147483648 ≤ l ∧ l < 2147483648) : OkI D m_cr_findCheapest [vr D 45, vr D g, vr D 10, vi l] (Zg g h) f (fun x f' => ((x = 0 ∧ Tc A c l n (A 0 2 0).toNat (bt (2 ^ n - 1)) = none) ∨ (x = 1 ∧ ∃ v, Tc A c l n (A 0 2 0).toNat (bt (2 ^ n - 1)) = some v ∧ f' 45 3 = v / 78125 ∧ ∀ k : Int, 0 ≤ k → k < 7 → f' 47 k = v % 78125 / 5 ^ (6 - k).toNat % 5)) ∧ ∀ j i, ¬ (47 ≤ j ∧ j ≤ 49) → ¬ (j = 45 ∧ i = 3) → f' j i = f j i) := by
  have hn := hF.nn
  have hg := hS.1
  have hG := hS.2.1
  have hg2 := q_G51 hg
  obtain ⟨n1, n8, n3, n4⟩ := hc
  have h2 := p2_rg n8
  have rT : ∀ (k : Nat) (q : Int → Bool), (k : Int) ≤ A 0 2 0 → ∀ v, Tc A c l n k q = some v → 0 ≤ v ∧ v ≤ 700000000 := fun k q hk v hv => by
    have := Tc_rg hF n4 hk q n 0 a7 (by omega) v hv; omega
  refine OkB_of (L0 := [vr D 45, vr D g, vr D 10, vi l, vu, vu, vu]) mi_cr_findCheapest rfl rfl (Nat.le_of_ble_eq_true rfl) (fun C hR => ?_)
  have loopD : ∀ (m : Nat) (k d v a4 : Int) (F : q_F), Tc A c l n (A 0 2 0).toNat (bt (2 ^ n - 1)) = some v → k + 1 = m → k ≤ 6 → d = v % 78125 / 5 ^ (6 - k).toNat → F 45 3 = v / 78125 → (∀ j i, ¬ (47 ≤ j ∧ j ≤ 49) → ¬ (j = 45 ∧ i = 3) → F j i = f j i) → (∀ i : Int, k < i → i < 7 → F 47 i = v % 78125 / 5 ^ (6 - i).toNat % 5) → V D C m_cr_findCheapest 138 [vr D 45, vr D g, vr D 10, vi l, vi a4, vi d, vi k] [] (Zg g h) F := by
    intro m
    induction m with
    | zero =>
      intro k d v a4 F hv hm hk hd h3 hf hr
      refine V_iload_6 d_cr_findCheapest_138 ?_
      refine V_if_lt 166 d_cr_findCheapest_140 (by decide) (by omega) (fun c140 => ?_) (fun c140 => by omega)
      refine V_iconst 1 d_cr_findCheapest_166 ?_
      refine V_ireturn d_cr_findCheapest_167 (hR _ _ (by decide) ?_)
      exact ⟨Or.inr ⟨rfl, v, hv, h3, fun i i0 i1 => hr i (by omega) i1⟩, hf⟩
    | succ m ih =>
      intro k d v a4 F hv hm hk hd h3 hf hr
      have hd0 : 0 ≤ d ∧ d ≤ v % 78125 := by rw [hd]; exact ⟨Int.ediv_nonneg (by omega) (Int.le_of_lt (Int.pow_pos (by decide))), Int.ediv_le_self _ (by omega)⟩
      refine V_iload_6 d_cr_findCheapest_138 ?_
      refine V_if_lt 166 d_cr_findCheapest_140 (by decide) (by omega) (fun c140 => by omega) (fun c140 => ?_)
      refine V_aload_0 d_cr_findCheapest_143 ?_
      refine V_getR d_cr_findCheapest_144 fl_cr_15 is_cr r_cr_crewOf ?_
      refine V_iload_6 d_cr_findCheapest_147 ?_
      refine V_iload_5 d_cr_findCheapest_149 ?_
      refine V_iconst 5 d_cr_findCheapest_151 ?_
      refine V_irem d_cr_findCheapest_152 (by omega) (by omega) ?_
      refine V_iast d_cr_findCheapest_153 is_cr_crewOf (by omega) (by omega) ?_
      refine V_iload_5 d_cr_findCheapest_154 ?_
      refine V_iconst 5 d_cr_findCheapest_156 ?_
      refine V_idiv d_cr_findCheapest_157 (by omega) (by omega) ?_
      refine V_istore_5 d_cr_findCheapest_158 rfl ?_
      refine V_iinc_6 d_cr_findCheapest_160 rfl ?_
      refine V_goto 138 d_cr_findCheapest_163 (by decide) ?_
      refine ih _ _ v _ _ hv (by omega) (by omega) ?_ (by rw [q_up_at (by decide)]; exact h3) (fun j i a b => by rw [q_up_at (by omega)]; exact hf j i a b) (fun i i0 i1 => ?_)
      · rw [hd, Int.ediv_ediv_of_nonneg (Int.le_of_lt (Int.pow_pos (by decide))), ← Int.pow_succ, show (6 - k).toNat.succ = (6 - (k + -1)).toNat by omega]
      · by_cases e : i = k
        · rw [q_up_is e, hd, e]
        · rw [q_up_ne (Or.inr e)]; exact hr i (by omega) i1
  have inner : ∀ (m : Nat) (s : Int) (k : Nat) (a6 : Value) (F : q_F), (k : Int) < A 0 2 0 → s + 1 = m → s < 2 ^ n → (∀ j i, ¬ (j = 48 ∨ j = 49) → F j i = f j i) → (∀ x, 0 ≤ x → x < 2 ^ n → F 49 x = enc (PCt A c l 1 k n (bt x))) → (∀ x, 0 ≤ x → x ≤ s → F 48 x = enc (Tc A c l n k (bt x))) → (∀ x, s < x → x < 2 ^ n → F 48 x = enc (Tc A c l n (k + 1) (bt x))) → (∀ F', (∀ j i, ¬ (j = 48 ∨ j = 49) → F' j i = f j i) → (∀ x, 0 ≤ x → x < 2 ^ n → F' 48 x = enc (Tc A c l n (k + 1) (bt x))) → V D C m_cr_findCheapest 91 [vr D 45, vr D g, vr D 10, vi l, vi k, vi (-1), a6] [] (Zg g h) F') → V D C m_cr_findCheapest 67 [vr D 45, vr D g, vr D 10, vi l, vi k, vi s, a6] [] (Zg g h) F := by
    intro m
    induction m with
    | zero =>
      intro s k a6 F hk hm hs hf hp hlo hhi K
      have es : s = -1 := by omega
      subst es
      refine V_iload_5 d_cr_findCheapest_67 ?_
      refine V_if_lt 91 d_cr_findCheapest_69 (by decide) (by omega) (fun c69 => ?_) (fun c69 => by omega)
      exact K F hf (fun x x0 x1 => hhi x (by omega) x1)
    | succ m ih =>
      intro s k a6 F hk hm hs hf hp hlo hhi K
      have h0 : 0 ≤ s := by omega
      obtain ⟨t, rfl⟩ := Int.eq_ofNat_of_zero_le h0
      refine V_iload_5 d_cr_findCheapest_67 ?_
      refine V_if_lt 91 d_cr_findCheapest_69 (by decide) (by omega) (fun c69 => by omega) (fun c69 => ?_)
      refine V_aload_0 d_cr_findCheapest_72 ?_
      refine V_getR d_cr_findCheapest_73 fl_cr_18 is_cr r_cr_table ?_
      refine V_iload_5 d_cr_findCheapest_76 ?_
      refine V_aload_0 d_cr_findCheapest_78 ?_
      refine V_iload_5 d_cr_findCheapest_79 ?_
      refine V_cvI1 d_cr_findCheapest_81 ml_cr_67 mv_cr_cheapestWithPart (by decide) (Nat.le_of_ble_eq_true rfl) is_cr (ok_cheapestWithPart (by omega) (fun y => PCt A c l 1 k n (bt y)) (fun y => Tc A c l n k (bt y)) (fun y hy => ⟨hp y (by omega) (by omega), hlo y (by omega) (by omega)⟩) (fun y hy => ⟨fun v hv => by
      rcases PCt_rg hF (c := c) (l := l) (w := 1) (b := (k : Int)) ⟨by omega, hk⟩ n (bt y) n4 with e | ⟨u, e, v0, v1⟩
      · rw [e] at hv; cases hv
      · rw [e] at hv; have : u = v := Option.some.inj hv; omega, fun v hv => rT k _ (by omega) v hv⟩)) ?_
      rintro _ f2 ⟨rfl, e2⟩
      rw [e2]; clear e2 f2
      rw [← Tc_succ c l (by omega) n8 hs]
      refine V_iast d_cr_findCheapest_84 is_cr_table (by omega) (by omega) ?_
      refine V_iinc_5 d_cr_findCheapest_85 rfl ?_
      refine V_goto 67 d_cr_findCheapest_88 (by decide) ?_
      refine ih _ k _ _ hk (by omega) (by omega) (fun j i hj => by rw [q_up_at (by omega)]; exact hf j i hj) (fun x x0 x1 => by rw [q_up_at (by decide)]; exact hp x x0 x1) (fun x x0 x1 => by rw [q_up_ne (Or.inr (by omega))]; exact hlo x x0 (by omega)) (fun x x0 x1 => ?_) K
      by_cases e : x = t
      · rw [q_up_is e, e]
      · rw [q_up_ne (Or.inr e)]; exact hhi x (by omega) x1
  have outer : ∀ (m k : Nat) (a5 a6 : Value) (F : q_F), ((k + m : Nat) : Int) = A 0 2 0 → (∀ j i, ¬ (j = 48 ∨ j = 49) → F j i = f j i) → (∀ x, 0 ≤ x → x < 2 ^ n → F 48 x = enc (Tc A c l n k (bt x))) → a5.category = 1 → V D C m_cr_findCheapest 38 [vr D 45, vr D g, vr D 10, vi l, vi k, a5, a6] [] (Zg g h) F := by
    intro m
    induction m with
    | zero =>
      intro k a5 a6 F hk hf ht h5
      have e2 : F (g + 1) 2 = A 0 2 0 := by rw [hf _ _ (by omega)]; exact hG.1 2 (by decide) (by decide)
      have e1 : F 45 1 = n := by rw [hf _ _ (by omega)]; exact n1
      have hkk : (A 0 2 0).toNat = k := by omega
      have ev := encv (rT k (bt (2 ^ n - 1)) (by omega))
      refine V_iload_4 d_cr_findCheapest_38 ?_
      refine V_aload_1 d_cr_findCheapest_40 ?_
      refine V_getR d_cr_findCheapest_41 fl_cr_38 (is_gd hg) (r_gd_counts hg) ?_
      refine V_iconst 2 d_cr_findCheapest_44 ?_
      refine V_iald d_cr_findCheapest_45 (is_gd_counts hg) (by omega) (by omega) ?_
      rw [e2]
      refine V_icmp_ge 97 d_cr_findCheapest_46 (by decide) (by omega) (by omega) (fun c46 => ?_) (fun c46 => by omega)
      refine V_aload_0 d_cr_findCheapest_97 ?_
      refine V_getR d_cr_findCheapest_98 fl_cr_18 is_cr r_cr_table ?_
      refine V_aload_0 d_cr_findCheapest_101 ?_
      refine V_cvI0 d_cr_findCheapest_102 ml_cr_47 mv_cr_sets (by decide) (Nat.le_of_ble_eq_true rfl) is_cr (ok_sets e1 n8) ?_
      rintro _ f2 ⟨rfl, e2⟩
      rw [e2]; clear e2 f2
      refine V_iconst 1 d_cr_findCheapest_105 ?_
      refine V_isub d_cr_findCheapest_106 ?_
      refine V_iald d_cr_findCheapest_107 is_cr_table (by omega) (by omega) ?_
      rw [ht _ (by omega) (by omega)]
      refine V_istore_4 d_cr_findCheapest_108 rfl ?_
      refine V_iload_4 d_cr_findCheapest_110 ?_
      refine V_iconst (-1) d_cr_findCheapest_112 ?_
      refine V_icmp_ne 118 d_cr_findCheapest_113 (by decide) (by omega) (by omega) (fun c113 => ?_) (fun c113 => ?_)
      · skip
        refine V_aload_0 d_cr_findCheapest_118 ?_
        refine V_iload_4 d_cr_findCheapest_119 ?_
        refine V_ldc 78125 d_cr_findCheapest_121 co_cr_70 rfl ?_
        refine V_idiv d_cr_findCheapest_123 (by omega) (by omega) ?_
        refine V_putI d_cr_findCheapest_124 fl_cr_71 is_cr ?_
        refine V_iload_4 d_cr_findCheapest_127 ?_
        refine V_ldc 78125 d_cr_findCheapest_129 co_cr_70 rfl ?_
        refine V_irem d_cr_findCheapest_131 (by omega) (by omega) ?_
        refine V_istore_5 d_cr_findCheapest_132 rfl ?_
        refine V_bipush 6 d_cr_findCheapest_134 (by decide) ?_
        refine V_istore_6 d_cr_findCheapest_136 rfl ?_
        obtain ⟨v0, v1, hv⟩ := ev.resolve_left (by omega)
        refine loopD 7 _ _ _ _ _ (by rw [hkk]; exact hv) (by decide) (by decide) ?_ (q_up_eq _ _ _ _) (fun j i a b => by rw [q_up_ne (by omega)]; exact hf j i (by omega)) (fun i a b => by omega)
        show _ = _ / 5 ^ (0 : Nat)
        rw [Int.pow_zero, Int.ediv_one]
      · skip
        refine V_iconst 0 d_cr_findCheapest_116 ?_
        refine V_ireturn d_cr_findCheapest_117 (hR _ _ (by decide) ?_)
        refine ⟨Or.inl ⟨rfl, ?_⟩, fun j i a b => hf j i (by omega)⟩
        rw [hkk]
        rcases ev with e | e
        · exact e.2
        · omega
    | succ m ih =>
      intro k a5 a6 F hk hf ht h5
      have e2 : F (g + 1) 2 = A 0 2 0 := by rw [hf _ _ (by omega)]; exact hG.1 2 (by decide) (by decide)
      have hSF : Cst g F A := hS.scr hF (fun j i hj => hf j i (by omega))
      have hcF : q_cho F A c n := ⟨by rw [hf _ _ (by omega)]; exact n1, n8, fun j a b => by rw [hf _ _ (by omega)]; exact n3 j a b, n4⟩
      have K : ∀ F', (∀ j i, ¬ (j = 48 ∨ j = 49) → F' j i = f j i) → (∀ x, 0 ≤ x → x < 2 ^ n → F' 48 x = enc (Tc A c l n (k + 1) (bt x))) → V D C m_cr_findCheapest 91 [vr D 45, vr D g, vr D 10, vi l, vi k, vi (-1), a6] [] (Zg g h) F' := by
        intro F' hf' ht'
        refine V_iinc_4 d_cr_findCheapest_91 rfl ?_
        refine V_goto 38 d_cr_findCheapest_94 (by decide) ?_
        exact ih (k + 1) _ _ F' (by omega) hf' ht' rfl
      refine V_iload_4 d_cr_findCheapest_38 ?_
      refine V_aload_1 d_cr_findCheapest_40 ?_
      refine V_getR d_cr_findCheapest_41 fl_cr_38 (is_gd hg) (r_gd_counts hg) ?_
      refine V_iconst 2 d_cr_findCheapest_44 ?_
      refine V_iald d_cr_findCheapest_45 (is_gd_counts hg) (by omega) (by omega) ?_
      rw [e2]
      refine V_icmp_ge 97 d_cr_findCheapest_46 (by decide) (by omega) (by omega) (fun c46 => by omega) (fun c46 => ?_)
      refine V_aload_0 d_cr_findCheapest_49 ?_
      refine V_aload_1 d_cr_findCheapest_50 ?_
      refine V_aload_2 d_cr_findCheapest_51 ?_
      refine V_iload_4 d_cr_findCheapest_52 ?_
      refine V_iload_3 d_cr_findCheapest_54 ?_
      refine V_iconst 1 d_cr_findCheapest_55 ?_
      refine V_cvV5 d_cr_findCheapest_56 ml_cr_43 mv_cr_fillPart (by decide) (Nat.le_of_ble_eq_true rfl) is_cr (ok_fillPart hSF hF hcF (by omega) hl (Or.inr rfl)) ?_
      rintro F1 ⟨hf1, hp1⟩
      have hf2 : ∀ j i, ¬ (j = 48 ∨ j = 49) → F1 j i = f j i := fun j i hj => by rw [hf1 j i (by omega)]; exact hf j i hj
      have e1 : F1 45 1 = n := by rw [hf2 _ _ (by omega)]; exact n1
      refine V_aload_0 d_cr_findCheapest_59 ?_
      refine V_cvI0 d_cr_findCheapest_60 ml_cr_47 mv_cr_sets (by decide) (Nat.le_of_ble_eq_true rfl) is_cr (ok_sets e1 n8) ?_
      rintro _ f2 ⟨rfl, e2⟩
      rw [e2]; clear e2 f2
      refine V_iconst 1 d_cr_findCheapest_63 ?_
      refine V_isub d_cr_findCheapest_64 ?_
      refine V_istore_5 d_cr_findCheapest_65 rfl ?_
      exact inner (2 ^ n : Int).toNat _ k _ F1 (by omega) (by omega) (by omega) hf2 hp1 (fun x x0 x1 => by rw [hf1 _ _ (by decide)]; exact ht x x0 (by omega)) (fun x x0 x1 => by omega) K
  have loopI : ∀ (m : Nat) (s : Int) (a5 a6 : Value) (F : q_F), s + m = 2 ^ n → 0 ≤ s → (∀ j i, ¬ (j = 48 ∨ j = 49) → F j i = f j i) → (∀ x, 0 ≤ x → x < s → F 48 x = enc (Tc A c l n 0 (bt x))) → a5.category = 1 → V D C m_cr_findCheapest 3 [vr D 45, vr D g, vr D 10, vi l, vi s, a5, a6] [] (Zg g h) F := by
    intro m
    induction m with
    | zero =>
      intro s a5 a6 F hm h0 hf ht h5
      have e1 : F 45 1 = n := by rw [hf _ _ (by omega)]; exact n1
      refine V_iload_4 d_cr_findCheapest_3 ?_
      refine V_aload_0 d_cr_findCheapest_5 ?_
      refine V_cvI0 d_cr_findCheapest_6 ml_cr_47 mv_cr_sets (by decide) (Nat.le_of_ble_eq_true rfl) is_cr (ok_sets e1 n8) ?_
      rintro _ f2 ⟨rfl, e2⟩
      rw [e2]; clear e2 f2
      refine V_icmp_ge 35 d_cr_findCheapest_9 (by decide) (by omega) (by omega) (fun c9 => ?_) (fun c9 => by omega)
      refine V_iconst 0 d_cr_findCheapest_35 ?_
      refine V_istore_4 d_cr_findCheapest_36 rfl ?_
      exact outer (A 0 2 0).toNat 0 _ _ F (by omega) hf (fun x x0 x1 => ht x x0 (by omega)) h5
    | succ m ih =>
      intro s a5 a6 F hm h0 hf ht h5
      have e1 : F 45 1 = n := by rw [hf _ _ (by omega)]; exact n1
      have e0 := Tc_0 (A := A) c l n8 h0 (show s < 2 ^ n by omega)
      have fin : ∀ y : Int, y = enc (Tc A c l n 0 (bt s)) → V D C m_cr_findCheapest 3 [vr D 45, vr D g, vr D 10, vi l, vi (s + 1), a5, a6] [] (Zg g h) (q_up F 48 s y) := by
        intro y hy
        refine ih _ _ _ _ (by omega) (by omega) (fun j i hj => by rw [q_up_at (by omega)]; exact hf j i hj) (fun x x0 x1 => ?_) h5
        by_cases e : x = s
        · rw [q_up_is e, e]; exact hy
        · rw [q_up_ne (Or.inr e)]; exact ht x x0 (by omega)
      refine V_iload_4 d_cr_findCheapest_3 ?_
      refine V_aload_0 d_cr_findCheapest_5 ?_
      refine V_cvI0 d_cr_findCheapest_6 ml_cr_47 mv_cr_sets (by decide) (Nat.le_of_ble_eq_true rfl) is_cr (ok_sets e1 n8) ?_
      rintro _ f2 ⟨rfl, e2⟩
      rw [e2]; clear e2 f2
      refine V_icmp_ge 35 d_cr_findCheapest_9 (by decide) (by omega) (by omega) (fun c9 => by omega) (fun c9 => ?_)
      refine V_aload_0 d_cr_findCheapest_12 ?_
      refine V_getR d_cr_findCheapest_13 fl_cr_18 is_cr r_cr_table ?_
      refine V_iload_4 d_cr_findCheapest_16 ?_
      refine V_iload_4 d_cr_findCheapest_18 ?_
      refine V_if_ne 27 d_cr_findCheapest_20 (by decide) (by omega) (fun c20 => ?_) (fun c20 => ?_)
      · skip
        refine V_iconst (-1) d_cr_findCheapest_27 ?_
        refine V_iast d_cr_findCheapest_28 is_cr_table (by omega) (by omega) ?_
        refine V_iinc_4 d_cr_findCheapest_29 rfl ?_
        refine V_goto 3 d_cr_findCheapest_32 (by decide) ?_
        exact fin _ (by rw [e0, if_neg c20]; rfl)
      · skip
        refine V_iconst 0 d_cr_findCheapest_23 ?_
        refine V_goto 28 d_cr_findCheapest_24 (by decide) ?_
        refine V_iast d_cr_findCheapest_28 is_cr_table (by omega) (by omega) ?_
        refine V_iinc_4 d_cr_findCheapest_29 rfl ?_
        refine V_goto 3 d_cr_findCheapest_32 (by decide) ?_
        exact fin _ (by rw [e0, if_pos (by omega)]; rfl)
  refine V_iconst 0 d_cr_findCheapest_0 ?_
  refine V_istore_4 d_cr_findCheapest_1 rfl ?_
  exact loopI (2 ^ n : Int).toNat _ _ _ f (by omega) (by decide) (fun _ _ _ => rfl) (fun x a b => by omega) rfl
end HS14
