/-! the reference: ways -/
section MO15
variable {D : q_D} {f f' : q_F} {A : q_As} {g h : Int}
/-- what is left to count at the i-th place from body y on, k bodies, m places behind it -/
def wyR (A : q_As) (c : Int → Int) (l : Int) (q : Int → Bool) (m i : Nat) (a : Int → Int) (k : Nat) (y : Int) : Int := wsN (fun b => if vd (okS A c l) (smS A c) (cmS A c) (bdy A b) i a then 1 * SA (fun x y : Int => x + y) (fun x y : Int => x * y) 0 1 true (okS A c l) (smS A c) (cmS A c) (fun _ _ => 1) (A 0 2 0).toNat q m (i + 1) (upA a i (bdy A b)) else 0) k y
theorem wyR_all (hn : 0 ≤ A 0 2 0) {c : Int → Int} {l : Int} {q : Int → Bool} {m i : Nat} {a : Int → Int} (hq : q i = true) : wyR A c l q m i a ((A 0 2 0).toNat + 1) 0 = SA (fun x y : Int => x + y) (fun x y : Int => x * y) 0 1 true (okS A c l) (smS A c) (cmS A c) (fun _ _ => 1) (A 0 2 0).toNat q (m + 1) i a := by
  unfold wyR
  rw [SA, if_pos hq]
  exact wsN_SB (A := A) (h := (A 0 2 0).toNat) (by omega) (fun b => if vd (okS A c l) (smS A c) (cmS A c) b i a then 1 * SA (fun x y : Int => x + y) (fun x y : Int => x * y) 0 1 true (okS A c l) (smS A c) (cmS A c) (fun _ _ => 1) (A 0 2 0).toNat q m (i + 1) (upA a i b) else 0)
theorem q_bod.fr {c a : Int → Int} {n i : Nat} (hq : q_bod f A c a n i) (hf : ∀ j k, ¬ j = 270 → f' j k = f j k) : q_bod f' A c a n i :=
  ⟨fun k k0 k1 => by rw [hf _ _ (by decide)]; exact hq.1 k k0 k1, fun k k0 k1 => by rw [hf _ _ (by decide)]; exact hq.2.1 k k0 k1, fun k k0 k1 => by rw [hf _ _ (by decide)]; exact hq.2.2 k k0 k1⟩
theorem mo_ways (hS : Mst f A) (hF : Wf A) {l : Int} (hl : -2147483648 ≤ l ∧ l < 2147483648) : OkI D m_mo_ways [vr D 219, vi l] (Zg g h) f (fun x f' => x = S_ways A l ∧ ∀ j k, ¬ (267 ≤ j ∧ j ≤ 272) → ¬ (j = 219 ∧ k = 69) → f' j k = f j k) := by
  have hn := hF.nn
  have hcr := cnt_rg (held A (-1))
  have hnO : ((nOf (held A (-1)) : Nat) : Int) = cnt (held A (-1)) := by unfold nOf; omega
  generalize hnn : nOf (held A (-1)) = n at hnO
  generalize hcc : chs (held A (-1)) = c
  have hc : cnt (held A (-1)) ≤ 8 → ∀ k : Int, 0 ≤ k → k < n → 0 ≤ c k ∧ c k < A 0 4 0 ∧ (∀ b : Int, 0 ≤ b → held A b (c k) = false) ∧ ∀ j : Int, 0 ≤ j → j < k → ¬ c k = c j := by
    intro h8 k k0 k1
    obtain ⟨e1, e2, e3⟩ := nth_at (p := held A (-1)) (fun t _ _ ht => by have := held_hi ht; omega) k0 (by omega)
    subst hcc
    refine ⟨e1, held_hi e3, fun b b0 => ?_, fun j j0 j1 => nth_ne (fun t _ _ ht => by have := held_hi ht; omega) j0 j1 (by omega)⟩
    have := (held_at e3).2
    show held A b (nth (held A (-1)) k) = false
    generalize nth (held A (-1)) k = u at this
    unfold held; rw [this, decide_eq_false (p := (-1 : Int) = b) (by omega), Bool.and_false]
  have no : ¬ (0 ≤ l ∧ cnt (held A (-1)) ≤ 8) → -1 = S_ways A l := fun e => by unfold S_ways; rw [if_neg e]
  refine OkI_of (L0 := [vr D 219, vi l, vu, vu, vu]) mi_mo_ways rfl rfl (Nat.le_of_ble_eq_true rfl) (fun C hR => ?_)
  have go : ∀ (m : Nat) (i : Nat), n ≤ 8 → i + m + 1 = n → cnt (held A (-1)) ≤ 8 → ∀ (k : Nat) (y : Int), y + 1 + k = A 0 2 0 + 1 → -1 ≤ y → ∀ (a : Int → Int) (F : q_F) (all : Int), (∀ j k, ¬ (267 ≤ j ∧ j ≤ 272) → ¬ (j = 219 ∧ k = 69) → F j k = f j k) → F 219 69 = n → F 270 i = y → (y = -1 → q_bod F A c a n i) → (0 ≤ y → q_bod F A c (upA a i (bdy A y)) n (i + 1)) →
      (∀ F' : q_F, (∀ j k, ¬ (267 ≤ j ∧ j ≤ 272) → ¬ (j = 219 ∧ k = 69) → F' j k = f j k) → F' 219 69 = n → (∀ j : Int, j < i → F' 270 j = F 270 j) → q_bod F' A c a n i → V D C m_mo_ways 49 [vr D 219, vi l, vi (mB (held A (-1))), vi (all + wyR A c l (bt (2 ^ n - 1)) m i a k (y + 1)), vi ((i : Int) - 1)] [] (Zg g h) F') →
      V D C m_mo_ways 49 [vr D 219, vi l, vi (mB (held A (-1))), vi all, vi i] [] (Zg g h) F := by
    intro m
    induction m with
    | zero =>
      intro i n8 him h8 k
      induction k using Nat.strongRecOn with
      | ind k ihk =>
        intro y hy hy1 a F all hf h69 h270 hq1 hq2 K
        have hci := hc h8 i (by omega) (by omega)
        have mid : ∀ F1 : q_F, (∀ j k, ¬ (267 ≤ j ∧ j ≤ 272) → ¬ (j = 219 ∧ k = 69) → F1 j k = f j k) → F1 219 69 = n → (∀ j, F1 270 j = F 270 j) → q_bod F1 A c a n i → V D C m_mo_ways 89 [vr D 219, vi l, vi (mB (held A (-1))), vi all, vi i] [] (Zg g h) F1 := by
          intro F1 f1 f69 f270 hq
          have hS1 : Mst F1 A := hS.scr hF f1
          have e0 : F1 270 i = y := by rw [f270, h270]
          have hy2 : (A 0 2 0 + 1 - (y + 1)).toNat = k := by omega
          obtain ⟨n1, n2, n3⟩ := nxN_rg (A := A) c a l i k (y + 1)
          have hws := wsN_nx (A := A) c a l i (fun b => 1 * SA (fun x y : Int => x + y) (fun x y : Int => x * y) 0 1 true (okS A c l) (smS A c) (cmS A c) (fun _ _ => 1) (A 0 2 0).toNat (bt (2 ^ n - 1)) 0 (i + 1) (upA a i (bdy A b))) k (y + 1)
          generalize hz : nxN A c a l i k (y + 1) = z at n1 n2 n3 hws
          refine V_aload_0 d_mo_ways_89 ?_
          refine V_iload_4 d_mo_ways_90 ?_
          refine V_aload_0 d_mo_ways_92 ?_
          refine V_cvI0 d_mo_ways_93 ml_mo_419 mv_mo_shadeMany (by decide) (Nat.le_of_ble_eq_true rfl) is_mo (ok_shadeMany hS1.1) ?_
          rintro _ f2 ⟨rfl, e2⟩
          rw [e2]; clear e2 f2
          refine V_iconst 1 d_mo_ways_96 ?_
          refine V_iadd d_mo_ways_97 ?_
          refine V_iload_1 d_mo_ways_98 ?_
          refine V_cvI3 d_mo_ways_99 ml_mo_503 mv_mo_isNext (by decide) (Nat.le_of_ble_eq_true rfl) is_mo (ok_isNext hS1 hF hq (by omega) n8 (fun k k0 k1 => ⟨(hc h8 k k0 k1).1, (hc h8 k k0 k1).2.1⟩) e0 (Or.inr rfl) (by omega) hl) ?_
          rintro x F2 ⟨hx, e2⟩
          rw [hy2, hz] at hx e2
          rw [e2]; clear e2 F2
          refine V_if_ne 111 d_mo_ways_102 (by decide) (by rw [hx]; split <;> omega) (fun c102 => ?_) (fun c102 => ?_)
          · skip
            have hzl : z < A 0 2 0 + 1 := by
              rw [hx] at c102; split at c102
              · assumption
              · omega
            have hS2 : Mst (q_up F1 270 i z) A := hS1.scr hF (fun j k a b => q_up_at (by omega))
            have hq2 : q_bod (q_up F1 270 i z) A c a n i := hq.fr (fun j k hj => q_up_at hj)
            have eoc := hq2.1 i (by omega) (by omega)
            have hbp := (hF.1.2.1 (c i) hci.1 hci.2.1).1
            have hix0 : 0 ≤ hix A c i z ∧ hix A c i z < 13 := by unfold hix; split <;> omega
            refine V_aload_0 d_mo_ways_111 ?_
            refine V_getR d_mo_ways_112 fl_mo_169 is_mo r_mo_bodyHas ?_
            refine V_aload_0 d_mo_ways_115 ?_
            refine V_iload_4 d_mo_ways_116 ?_
            refine V_cvI1 d_mo_ways_118 ml_mo_494 mv_mo_hasOf (by decide) (Nat.le_of_ble_eq_true rfl) is_mo (ok_hasOf hS2.1 hF.1 (by omega) (q_up_eq _ _ _ _) (by omega) eoc ⟨hci.1, hci.2.1⟩) ?_
            rintro _ f2 ⟨rfl, e2⟩
            rw [e2]; clear e2 f2
            rw [show (if z < A 0 2 0 then z else 5 + A 7 (c i) 0) = hix A c i z from rfl]
            refine V_dup2 d_mo_ways_121 rfl rfl ?_
            refine V_iald d_mo_ways_122 is_mo_bodyHas (by omega) (by omega) ?_
            refine V_iconst 1 d_mo_ways_123 ?_
            refine V_aload_0 d_mo_ways_124 ?_
            refine V_getR d_mo_ways_125 fl_mo_163 is_mo r_mo_open0 ?_
            refine V_iload_4 d_mo_ways_128 ?_
            refine V_iald d_mo_ways_130 is_mo_open0 (by omega) (by omega) ?_
            rw [eoc]
            refine V_ishl d_mo_ways_131 ?_
            refine V_ior d_mo_ways_132 ?_
            refine V_iast d_mo_ways_133 is_mo_bodyHas (by omega) (by omega) ?_
            refine V_iload_4 d_mo_ways_134 ?_
            refine V_aload_0 d_mo_ways_136 ?_
            refine V_getI d_mo_ways_137 fl_mo_491 is_mo ?_
            rw [q_up_at (by decide), q_up_at (by decide), f69]
            refine V_iconst 1 d_mo_ways_140 ?_
            refine V_isub d_mo_ways_141 ?_
            refine V_icmp_ne 151 d_mo_ways_142 (by decide) (by omega) (by omega) (fun c142 => by omega) (fun c142 => ?_)
            refine V_iinc_3 d_mo_ways_145 rfl ?_
            refine V_goto 49 d_mo_ways_148 (by decide) ?_
            refine ihk (A 0 2 0 - z).toNat (by omega) z (by omega) (by omega) a _ _ (fun j k a b => by rw [q_up_at (by omega), q_up_at (by omega)]; exact f1 j k a b) (by rw [q_up_at (by decide), q_up_at (by decide)]; exact f69) (by rw [q_up_at (by decide), q_up_eq]) (fun e => by omega) (fun _ => bod_add hF (by omega) (fun k k0 k1 => ⟨(hc h8 k k0 k1).1, (hc h8 k k0 k1).2.1⟩) (by omega) hq2) (fun F' g1 g2 g3 g4 => ?_)
            have := K F' g1 g2 (fun j hj => by rw [g3 j hj, q_up_at (by decide), q_up_ne (Or.inr (by omega))]; exact f270 j) g4
            unfold wyR at this ⊢
            rw [hws, if_pos (by omega), show (y + 1 + (k : Int) - z - 1).toNat = (A 0 2 0 - z).toNat by omega, SA] at this
            rw [show all + 1 + wsN (fun b => if vd (okS A c l) (smS A c) (cmS A c) (bdy A b) i a then 1 * SA (fun x y : Int => x + y) (fun x y : Int => x * y) 0 1 true (okS A c l) (smS A c) (cmS A c) (fun _ _ => 1) (A 0 2 0).toNat (bt (2 ^ n - 1)) 0 (i + 1) (upA a i (bdy A b)) else 0) (A 0 2 0 - z).toNat (z + 1) = all + (1 * 1 + wsN (fun b => if vd (okS A c l) (smS A c) (cmS A c) (bdy A b) i a then 1 * SA (fun x y : Int => x + y) (fun x y : Int => x * y) 0 1 true (okS A c l) (smS A c) (cmS A c) (fun _ _ => 1) (A 0 2 0).toNat (bt (2 ^ n - 1)) 0 (i + 1) (upA a i (bdy A b)) else 0) (A 0 2 0 - z).toNat (z + 1)) by omega]
            exact this
          · skip
            have hzl : z = A 0 2 0 + 1 := by
              rw [hx] at c102; split at c102
              · omega
              · omega
            refine V_iinc_4 d_mo_ways_105 rfl ?_
            refine V_goto 49 d_mo_ways_108 (by decide) ?_
            have := K (q_up F1 270 i z) (fun j k a b => by rw [q_up_at (by omega)]; exact f1 j k a b) (by rw [q_up_at (by decide)]; exact f69) (fun j hj => by rw [q_up_ne (Or.inr (by omega))]; exact f270 j) (hq.fr (fun j k hj => q_up_at hj))
            unfold wyR at this
            rw [hws, if_neg (by omega)] at this
            rw [Int.add_zero] at this
            exact this
        have hSF : Mst F A := hS.scr hF hf
        refine V_iload_4 d_mo_ways_49 ?_
        refine V_if_lt 165 d_mo_ways_51 (by decide) (by omega) (fun c51 => by omega) (fun c51 => ?_)
        refine V_aload_0 d_mo_ways_54 ?_
        refine V_getR d_mo_ways_55 fl_mo_166 is_mo r_mo_body ?_
        refine V_iload_4 d_mo_ways_58 ?_
        refine V_iald d_mo_ways_60 is_mo_body (by omega) (by omega) ?_
        rw [h270]
        refine V_if_lt 89 d_mo_ways_61 (by decide) (by omega) (fun c61 => ?_) (fun c61 => ?_)
        · skip
          exact mid F hf h69 (fun _ => rfl) (hq1 (by omega))
        · skip
          have hq := hq2 (by omega)
          have eoc := hq.1 i (by omega) (by omega)
          have hbp := (hF.1.2.1 (c i) hci.1 hci.2.1).1
          have hix0 : 0 ≤ hix A c i y ∧ hix A c i y < 13 := by unfold hix; split <;> omega
          refine V_aload_0 d_mo_ways_64 ?_
          refine V_getR d_mo_ways_65 fl_mo_169 is_mo r_mo_bodyHas ?_
          refine V_aload_0 d_mo_ways_68 ?_
          refine V_iload_4 d_mo_ways_69 ?_
          refine V_cvI1 d_mo_ways_71 ml_mo_494 mv_mo_hasOf (by decide) (Nat.le_of_ble_eq_true rfl) is_mo (ok_hasOf hSF.1 hF.1 (by omega) h270 (by omega) eoc ⟨hci.1, hci.2.1⟩) ?_
          rintro _ f2 ⟨rfl, e2⟩
          rw [e2]; clear e2 f2
          rw [show (if y < A 0 2 0 then y else 5 + A 7 (c i) 0) = hix A c i y from rfl]
          refine V_dup2 d_mo_ways_74 rfl rfl ?_
          refine V_iald d_mo_ways_75 is_mo_bodyHas (by omega) (by omega) ?_
          refine V_iconst 1 d_mo_ways_76 ?_
          refine V_aload_0 d_mo_ways_77 ?_
          refine V_getR d_mo_ways_78 fl_mo_163 is_mo r_mo_open0 ?_
          refine V_iload_4 d_mo_ways_81 ?_
          refine V_iald d_mo_ways_83 is_mo_open0 (by omega) (by omega) ?_
          rw [eoc]
          refine V_ishl d_mo_ways_84 ?_
          refine V_iconst (-1) d_mo_ways_85 ?_
          refine V_ixor d_mo_ways_86 ?_
          refine V_iand d_mo_ways_87 ?_
          refine V_iast d_mo_ways_88 is_mo_bodyHas (by omega) (by omega) ?_
          exact mid _ (fun j k a b => by rw [q_up_at (by omega)]; exact hf j k a b) (by rw [q_up_at (by decide)]; exact h69) (fun j => q_up_at (by decide)) (bod_del hF (by omega) (fun k k0 k1 => ⟨(hc h8 k k0 k1).1, (hc h8 k k0 k1).2.1⟩) hci.2.2.1 hci.2.2.2 (by omega) hq)
    | succ m ih =>
      intro i n8 him h8 k
      induction k using Nat.strongRecOn with
      | ind k ihk =>
        intro y hy hy1 a F all hf h69 h270 hq1 hq2 K
        have hci := hc h8 i (by omega) (by omega)
        have mid : ∀ F1 : q_F, (∀ j k, ¬ (267 ≤ j ∧ j ≤ 272) → ¬ (j = 219 ∧ k = 69) → F1 j k = f j k) → F1 219 69 = n → (∀ j, F1 270 j = F 270 j) → q_bod F1 A c a n i → V D C m_mo_ways 89 [vr D 219, vi l, vi (mB (held A (-1))), vi all, vi i] [] (Zg g h) F1 := by
          intro F1 f1 f69 f270 hq
          have hS1 : Mst F1 A := hS.scr hF f1
          have e0 : F1 270 i = y := by rw [f270, h270]
          have hy2 : (A 0 2 0 + 1 - (y + 1)).toNat = k := by omega
          obtain ⟨n1, n2, n3⟩ := nxN_rg (A := A) c a l i k (y + 1)
          have hws := wsN_nx (A := A) c a l i (fun b => 1 * SA (fun x y : Int => x + y) (fun x y : Int => x * y) 0 1 true (okS A c l) (smS A c) (cmS A c) (fun _ _ => 1) (A 0 2 0).toNat (bt (2 ^ n - 1)) (m + 1) (i + 1) (upA a i (bdy A b))) k (y + 1)
          generalize hz : nxN A c a l i k (y + 1) = z at n1 n2 n3 hws
          refine V_aload_0 d_mo_ways_89 ?_
          refine V_iload_4 d_mo_ways_90 ?_
          refine V_aload_0 d_mo_ways_92 ?_
          refine V_cvI0 d_mo_ways_93 ml_mo_419 mv_mo_shadeMany (by decide) (Nat.le_of_ble_eq_true rfl) is_mo (ok_shadeMany hS1.1) ?_
          rintro _ f2 ⟨rfl, e2⟩
          rw [e2]; clear e2 f2
          refine V_iconst 1 d_mo_ways_96 ?_
          refine V_iadd d_mo_ways_97 ?_
          refine V_iload_1 d_mo_ways_98 ?_
          refine V_cvI3 d_mo_ways_99 ml_mo_503 mv_mo_isNext (by decide) (Nat.le_of_ble_eq_true rfl) is_mo (ok_isNext hS1 hF hq (by omega) n8 (fun k k0 k1 => ⟨(hc h8 k k0 k1).1, (hc h8 k k0 k1).2.1⟩) e0 (Or.inr rfl) (by omega) hl) ?_
          rintro x F2 ⟨hx, e2⟩
          rw [hy2, hz] at hx e2
          rw [e2]; clear e2 F2
          refine V_if_ne 111 d_mo_ways_102 (by decide) (by rw [hx]; split <;> omega) (fun c102 => ?_) (fun c102 => ?_)
          · skip
            have hzl : z < A 0 2 0 + 1 := by
              rw [hx] at c102; split at c102
              · assumption
              · omega
            have hS2 : Mst (q_up F1 270 i z) A := hS1.scr hF (fun j k a b => q_up_at (by omega))
            have hq2 : q_bod (q_up F1 270 i z) A c a n i := hq.fr (fun j k hj => q_up_at hj)
            have eoc := hq2.1 i (by omega) (by omega)
            have hbp := (hF.1.2.1 (c i) hci.1 hci.2.1).1
            have hix0 : 0 ≤ hix A c i z ∧ hix A c i z < 13 := by unfold hix; split <;> omega
            refine V_aload_0 d_mo_ways_111 ?_
            refine V_getR d_mo_ways_112 fl_mo_169 is_mo r_mo_bodyHas ?_
            refine V_aload_0 d_mo_ways_115 ?_
            refine V_iload_4 d_mo_ways_116 ?_
            refine V_cvI1 d_mo_ways_118 ml_mo_494 mv_mo_hasOf (by decide) (Nat.le_of_ble_eq_true rfl) is_mo (ok_hasOf hS2.1 hF.1 (by omega) (q_up_eq _ _ _ _) (by omega) eoc ⟨hci.1, hci.2.1⟩) ?_
            rintro _ f2 ⟨rfl, e2⟩
            rw [e2]; clear e2 f2
            rw [show (if z < A 0 2 0 then z else 5 + A 7 (c i) 0) = hix A c i z from rfl]
            refine V_dup2 d_mo_ways_121 rfl rfl ?_
            refine V_iald d_mo_ways_122 is_mo_bodyHas (by omega) (by omega) ?_
            refine V_iconst 1 d_mo_ways_123 ?_
            refine V_aload_0 d_mo_ways_124 ?_
            refine V_getR d_mo_ways_125 fl_mo_163 is_mo r_mo_open0 ?_
            refine V_iload_4 d_mo_ways_128 ?_
            refine V_iald d_mo_ways_130 is_mo_open0 (by omega) (by omega) ?_
            rw [eoc]
            refine V_ishl d_mo_ways_131 ?_
            refine V_ior d_mo_ways_132 ?_
            refine V_iast d_mo_ways_133 is_mo_bodyHas (by omega) (by omega) ?_
            refine V_iload_4 d_mo_ways_134 ?_
            refine V_aload_0 d_mo_ways_136 ?_
            refine V_getI d_mo_ways_137 fl_mo_491 is_mo ?_
            rw [q_up_at (by decide), q_up_at (by decide), f69]
            refine V_iconst 1 d_mo_ways_140 ?_
            refine V_isub d_mo_ways_141 ?_
            refine V_icmp_ne 151 d_mo_ways_142 (by decide) (by omega) (by omega) (fun c142 => ?_) (fun c142 => by omega)
            refine V_iinc_4 d_mo_ways_151 rfl ?_
            refine V_aload_0 d_mo_ways_154 ?_
            refine V_getR d_mo_ways_155 fl_mo_166 is_mo r_mo_body ?_
            refine V_iload_4 d_mo_ways_158 ?_
            refine V_iconst (-1) d_mo_ways_160 ?_
            refine V_iast d_mo_ways_161 is_mo_body (by omega) (by omega) ?_
            refine V_goto 49 d_mo_ways_162 (by decide) ?_
            have hqa := bod_add hF (show i < n by omega) (fun k k0 k1 => ⟨(hc h8 k k0 k1).1, (hc h8 k k0 k1).2.1⟩) (show 0 ≤ z ∧ z ≤ A 0 2 0 by omega) hq2
            have hqt : bt (2 ^ n - 1) ((i + 1 : Nat) : Int) = true := by
              have : ∀ n : Nat, n ≤ 8 → ∀ i : Nat, i < n → bt (2 ^ n - 1) (i : Int) = true := by decide +kernel
              exact this n n8 (i + 1) (by omega)
            refine ih (i + 1) n8 (by omega) h8 ((A 0 2 0).toNat + 1) (-1) (by omega) (by omega) (upA a i (bdy A z)) _ all (fun j k a b => by rw [q_up_at (by omega), q_up_at (by omega), q_up_at (by omega)]; exact f1 j k a b) (by rw [q_up_at (by decide), q_up_at (by decide), q_up_at (by decide)]; exact f69) (q_up_eq _ _ _ _) (fun _ => hqa.fr (fun j k hj => q_up_at hj)) (fun e => by omega) (fun F' g1 g2 g3 g4 => ?_)
            rw [show (-1 : Int) + 1 = 0 by decide, wyR_all (by omega) hqt, show ((i + 1 : Nat) : Int) - 1 = (i : Int) by omega]
            have g270 : F' 270 i = z := by rw [g3 i (by omega), q_up_ne (Or.inr (by omega)), q_up_at (by decide), q_up_eq]
            refine ihk (A 0 2 0 - z).toNat (by omega) z (by omega) (by omega) a F' _ g1 g2 g270 (fun e => by omega) (fun _ => g4) (fun F'' j1 j2 j3 j4 => ?_)
            have := K F'' j1 j2 (fun j hj => by rw [j3 j hj, g3 j (by omega), q_up_ne (Or.inr (by omega)), q_up_at (by decide), q_up_ne (Or.inr (by omega))]; exact f270 j) j4
            unfold wyR at this ⊢
            rw [hws, if_pos (by omega), show (y + 1 + (k : Int) - z - 1).toNat = (A 0 2 0 - z).toNat by omega, Int.one_mul, ← Int.add_assoc] at this
            exact this
          · skip
            have hzl : z = A 0 2 0 + 1 := by
              rw [hx] at c102; split at c102
              · omega
              · omega
            refine V_iinc_4 d_mo_ways_105 rfl ?_
            refine V_goto 49 d_mo_ways_108 (by decide) ?_
            have := K (q_up F1 270 i z) (fun j k a b => by rw [q_up_at (by omega)]; exact f1 j k a b) (by rw [q_up_at (by decide)]; exact f69) (fun j hj => by rw [q_up_ne (Or.inr (by omega))]; exact f270 j) (hq.fr (fun j k hj => q_up_at hj))
            unfold wyR at this
            rw [hws, if_neg (by omega)] at this
            rw [Int.add_zero] at this
            exact this
        have hSF : Mst F A := hS.scr hF hf
        refine V_iload_4 d_mo_ways_49 ?_
        refine V_if_lt 165 d_mo_ways_51 (by decide) (by omega) (fun c51 => by omega) (fun c51 => ?_)
        refine V_aload_0 d_mo_ways_54 ?_
        refine V_getR d_mo_ways_55 fl_mo_166 is_mo r_mo_body ?_
        refine V_iload_4 d_mo_ways_58 ?_
        refine V_iald d_mo_ways_60 is_mo_body (by omega) (by omega) ?_
        rw [h270]
        refine V_if_lt 89 d_mo_ways_61 (by decide) (by omega) (fun c61 => ?_) (fun c61 => ?_)
        · skip
          exact mid F hf h69 (fun _ => rfl) (hq1 (by omega))
        · skip
          have hq := hq2 (by omega)
          have eoc := hq.1 i (by omega) (by omega)
          have hbp := (hF.1.2.1 (c i) hci.1 hci.2.1).1
          have hix0 : 0 ≤ hix A c i y ∧ hix A c i y < 13 := by unfold hix; split <;> omega
          refine V_aload_0 d_mo_ways_64 ?_
          refine V_getR d_mo_ways_65 fl_mo_169 is_mo r_mo_bodyHas ?_
          refine V_aload_0 d_mo_ways_68 ?_
          refine V_iload_4 d_mo_ways_69 ?_
          refine V_cvI1 d_mo_ways_71 ml_mo_494 mv_mo_hasOf (by decide) (Nat.le_of_ble_eq_true rfl) is_mo (ok_hasOf hSF.1 hF.1 (by omega) h270 (by omega) eoc ⟨hci.1, hci.2.1⟩) ?_
          rintro _ f2 ⟨rfl, e2⟩
          rw [e2]; clear e2 f2
          rw [show (if y < A 0 2 0 then y else 5 + A 7 (c i) 0) = hix A c i y from rfl]
          refine V_dup2 d_mo_ways_74 rfl rfl ?_
          refine V_iald d_mo_ways_75 is_mo_bodyHas (by omega) (by omega) ?_
          refine V_iconst 1 d_mo_ways_76 ?_
          refine V_aload_0 d_mo_ways_77 ?_
          refine V_getR d_mo_ways_78 fl_mo_163 is_mo r_mo_open0 ?_
          refine V_iload_4 d_mo_ways_81 ?_
          refine V_iald d_mo_ways_83 is_mo_open0 (by omega) (by omega) ?_
          rw [eoc]
          refine V_ishl d_mo_ways_84 ?_
          refine V_iconst (-1) d_mo_ways_85 ?_
          refine V_ixor d_mo_ways_86 ?_
          refine V_iand d_mo_ways_87 ?_
          refine V_iast d_mo_ways_88 is_mo_bodyHas (by omega) (by omega) ?_
          exact mid _ (fun j k a b => by rw [q_up_at (by omega)]; exact hf j k a b) (by rw [q_up_at (by decide)]; exact h69) (fun j => q_up_at (by decide)) (bod_del hF (by omega) (fun k k0 k1 => ⟨(hc h8 k k0 k1).1, (hc h8 k k0 k1).2.1⟩) hci.2.2.1 hci.2.2.2 (by omega) hq)
  have fin : ∀ (F' : q_F) (all : Int), (∀ j k, ¬ (267 ≤ j ∧ j ≤ 272) → ¬ (j = 219 ∧ k = 69) → F' j k = f j k) → all = S_ways A l → V D C m_mo_ways 49 [vr D 219, vi l, vi (mB (held A (-1))), vi all, vi (((0 : Nat) : Int) - 1)] [] (Zg g h) F' := by
    intro F' all g1 e
    refine V_iload_4 d_mo_ways_49 ?_
    refine V_if_lt 165 d_mo_ways_51 (by decide) (by omega) (fun c51 => ?_) (fun c51 => by omega)
    refine V_iload_3 d_mo_ways_165 ?_
    refine V_ireturn d_mo_ways_166 (hR _ _ ?_)
    exact ⟨e, g1⟩
  refine V_iload_1 d_mo_ways_0 ?_
  refine V_if_ge 6 d_mo_ways_1 (by decide) (by omega) (fun c1 => ?_) (fun c1 => ?_)
  · skip
    refine V_aload_0 d_mo_ways_6 ?_
    refine V_iconst (-1) d_mo_ways_7 ?_
    refine V_cvI1 d_mo_ways_8 ml_mo_440 mv_mo_hiredBy (by decide) (Nat.le_of_ble_eq_true rfl) is_mo (ok_hiredBy hS.1 hS.2.1 hF.1 hF.2.1 (by omega)) ?_
    rintro _ f2 ⟨rfl, e2⟩
    rw [e2]; clear e2 f2
    refine V_istore_2 d_mo_ways_11 rfl ?_
    refine V_iload_2 d_mo_ways_12 ?_
    refine V_csI1 d_mo_ways_13 ml_mo_443 ms_mo_bits (by decide) (Nat.le_of_ble_eq_true rfl) (ok_bits) ?_
    rintro _ f2 ⟨rfl, e2⟩
    rw [e2]; clear e2 f2
    refine V_bipush 8 d_mo_ways_16 (by decide) ?_
    refine V_icmp_le 23 d_mo_ways_18 (by decide) (by omega) (by omega) (fun c18 => ?_) (fun c18 => ?_)
    · skip
      refine V_aload_0 d_mo_ways_23 ?_
      refine V_iload_2 d_mo_ways_24 ?_
      refine V_cvV1 d_mo_ways_25 ml_mo_501 mv_mo_opens1 (by decide) (Nat.le_of_ble_eq_true rfl) is_mo (ok_opens1 hS hF (fun t _ _ ht => held_hi ht)) ?_
      rintro F ⟨⟨o1, o2, o3, o4⟩, hf⟩
      refine V_aload_0 d_mo_ways_28 ?_
      refine V_getI d_mo_ways_29 fl_mo_491 is_mo ?_
      rw [o1]
      refine V_if_ne 37 d_mo_ways_32 (by decide) (by omega) (fun c32 => ?_) (fun c32 => ?_)
      · skip
        refine V_iconst 0 d_mo_ways_37 ?_
        refine V_istore_3 d_mo_ways_38 rfl ?_
        refine V_iconst 0 d_mo_ways_39 ?_
        refine V_istore_4 d_mo_ways_40 rfl ?_
        refine V_aload_0 d_mo_ways_42 ?_
        refine V_getR d_mo_ways_43 fl_mo_166 is_mo r_mo_body ?_
        refine V_iconst 0 d_mo_ways_46 ?_
        refine V_iconst (-1) d_mo_ways_47 ?_
        refine V_iast d_mo_ways_48 is_mo_body (by omega) (by omega) ?_
        have hq0 : q_bod (q_up F 270 0 (-1)) A c a7 n 0 := by
          refine ⟨fun k k0 k1 => ?_, fun b b0 b1 => ?_, fun b b0 b1 => ?_⟩
          · rw [q_up_at (by decide), o2 k k0 (by omega), ← hcc]; rfl
          · rw [q_up_at (by decide), o3 b b0 b1]
            refine mB_eq (fun t _ _ => ?_)
            unfold hsS anyI; rw [Bool.or_false]
          · rw [q_up_at (by decide), o4 b b0 b1]
            exact (mB_0).symm
        have hqt : bt (2 ^ n - 1) ((0 : Nat) : Int) = true := by
          have : ∀ n : Nat, n ≤ 8 → ∀ i : Nat, i < n → bt (2 ^ n - 1) (i : Int) = true := by decide +kernel
          exact this n (by omega) 0 (by omega)
        refine go (n - 1) 0 (by omega) (by omega) (by omega) ((A 0 2 0).toNat + 1) (-1) (by omega) (by omega) a7 _ _ (fun j k a b => by rw [q_up_at (by omega)]; exact hf j k (by omega) (by omega) b) (by rw [q_up_at (by decide), o1]; omega) (q_up_eq _ _ _ _) (fun _ => hq0) (fun e => by omega) (fun F' g1 g2 g3 g4 => ?_)
        rw [show (-1 : Int) + 1 = 0 by decide, wyR_all (by omega) hqt, show n - 1 + 1 = n by omega]
        exact fin F' _ g1 (by
          unfold S_ways; rw [if_pos (by omega), hnn, hcc]; unfold Tw; omega)
      · skip
        refine V_iconst 1 d_mo_ways_35 ?_
        refine V_ireturn d_mo_ways_36 (hR _ _ ?_)
        refine ⟨?_, fun j k a b => hf j k (by omega) (by omega) b⟩
        have hn0 : n = 0 := by omega
        unfold S_ways; rw [if_pos (by omega), hnn, hn0]; unfold Tw; rw [SA]
    · skip
      refine V_iconst (-1) d_mo_ways_21 ?_
      refine V_ireturn d_mo_ways_22 (hR _ _ ?_)
      exact ⟨no (by omega), fun _ _ _ _ => rfl⟩
  · skip
    refine V_iconst (-1) d_mo_ways_4 ?_
    refine V_ireturn d_mo_ways_5 (hR _ _ ?_)
    exact ⟨no (by omega), fun _ _ _ _ => rfl⟩
end MO15
