/-! the reference: the search for the cheapest crew -/
section MO17
variable {D : q_D} {f f' : q_F} {A : q_As} {g h : Int}
def q_cf (f F : q_F) (n : Nat) : Prop := (∀ j k, ¬ (267 ≤ j ∧ j ≤ 272) → ¬ (j = 219 ∧ k = 69) → F j k = f j k) ∧ F 219 69 = n
def q_bst (F : q_F) (n : Nat) (v : Option Int) (B : Int) : Prop := ∀ x, v = some x → 0 ≤ x ∧ x < 600000000 ∧ x % 78125 < B ∧ ∀ k : Int, 0 ≤ k → k < n → F 272 k = dg x k
def q_cwS (A : q_As) (c : Int → Int) (l : Int) (q : Int → Bool) (m i : Nat) (a : Int → Int) : Option Int := SA tad tml none (some 0) false (okS A c l) (smS A c) (cmS A c) (wtS A c 1) (A 0 2 0).toNat q m i a
def crR (A : q_As) (c : Int → Int) (l : Int) (q : Int → Bool) (m i : Nat) (a : Int → Int) (k : Nat) (y : Int) : Option Int := wsO (fun b => if vd (okS A c l) (smS A c) (cmS A c) (bdy A b) i a then tml (wtS A c 1 (bdy A b) i) (q_cwS A c l q m (i + 1) (upA a i (bdy A b))) else none) k y
theorem wsO_eq {F G : Int → Option Int} : ∀ (k : Nat) (y : Int), (∀ b, y ≤ b → b < y + k → F b = G b) → wsO F k y = wsO G k y := by
  intro k
  induction k with
  | zero => intro y _; rfl
  | succ k ih => intro y hh; rw [wsO, wsO, hh y (by omega) (by omega), ih (y + 1) (fun b b0 b1 => hh b (by omega) (by omega))]
theorem crR_all (hn : 0 ≤ A 0 2 0) {c : Int → Int} {l : Int} {q : Int → Bool} {m i : Nat} {a : Int → Int} (hq : q i = true) : crR A c l q m i a (A 0 2 0).toNat 0 = q_cwS A c l q (m + 1) i a := by
  have e : q_cwS A c l q (m + 1) i a = SB tad none false (A 0 2 0).toNat (fun b => if vd (okS A c l) (smS A c) (cmS A c) b i a then tml (wtS A c 1 b i) (q_cwS A c l q m (i + 1) (upA a i b)) else none) := by
    unfold q_cwS; rw [SA, if_pos hq]
  rw [e, ← wsO_SB]
  unfold crR
  refine wsO_eq _ _ (fun b b0 b1 => ?_)
  have : bdy A b = b := by unfold bdy; rw [if_pos (by omega)]
  simp only [this]
theorem bs_rg {F : q_F} {n : Nat} {v : Option Int} {B : Int} (hv : q_bst F n v B) : -1 ≤ bs v ∧ bs v < 2147483648 := by
  cases v with
  | none => show -1 ≤ (-1 : Int) ∧ (-1 : Int) < _; omega
  | some x => have := hv x rfl; show -1 ≤ x / 78125 ∧ x / 78125 < _; omega
theorem q_bst.mono {F F' : q_F} {n : Nat} {v : Option Int} {B B' : Int} (hv : q_bst F n v B) (hB : B ≤ B') (hf : ∀ k, F' 272 k = F 272 k) : q_bst F' n v B' := fun x hx => by
  obtain ⟨h1, h2, h3, h4⟩ := hv x hx
  exact ⟨h1, h2, by omega, fun k k0 k1 => by rw [hf]; exact h4 k k0 k1⟩
theorem ok_crewOf (hS : Mst f A) (hF : Wf A) {c : Int → Int} {n : Nat} {l : Int} (n1 : 1 ≤ n) (n7 : n ≤ 7) (hl : -2147483648 ≤ l ∧ l < 2147483648) (hc : ∀ k : Int, 0 ≤ k → k < n → 0 ≤ c k ∧ c k < A 0 4 0 ∧ (∀ b : Int, 0 ≤ b → held A b (c k) = false) ∧ ∀ j : Int, 0 ≤ j → j < k → ¬ c k = c j) (h69 : f 219 69 = n) (hq0 : q_bod f A c a7 n 0) : OkI D m_mo_crewOf [vr D 219, vi l] (Zg g h) f (fun x f' => ∃ v, v = q_cwS A c l (bt (2 ^ n - 1)) n 0 a7 ∧ x = bs v ∧ q_bst f' n v 78125 ∧ (∀ k : Int, 0 ≤ k → k < n → f' 269 k = c k) ∧ ∀ j k, ¬ (267 ≤ j ∧ j ≤ 272) → f' j k = f j k) := by
  have hn := hF.nn
  have hc2 : ∀ k : Int, 0 ≤ k → k < n → 0 ≤ c k ∧ c k < A 0 4 0 := fun k k0 k1 => ⟨(hc k k0 k1).1, (hc k k0 k1).2.1⟩
  have hqt : ∀ i : Nat, i < n → bt (2 ^ n - 1) (i : Int) = true := by
    have : ∀ n : Nat, n ≤ 8 → ∀ i : Nat, i < n → bt (2 ^ n - 1) (i : Int) = true := by decide +kernel
    exact this n (by omega)
  refine OkI_of (L0 := [vr D 219, vi l, vu, vu, vu, vu]) mi_mo_crewOf rfl rfl (Nat.le_of_ble_eq_true rfl) (fun C hR => ?_)
  have fin : ∀ (F' : q_F) (v : Option Int) (u w : Value), q_cf f F' n → q_bod F' A c a7 n 0 → v = q_cwS A c l (bt (2 ^ n - 1)) n 0 a7 → q_bst F' n v 78125 → V D C m_mo_crewOf 11 [vr D 219, vi l, vi (bs v), vi (((0 : Nat) : Int) - 1), u, w] [] (Zg g h) F' := by
    intro F' v u w g1 g3 e hb
    refine V_iload_3 d_mo_crewOf_11 ?_
    refine V_if_lt 211 d_mo_crewOf_12 (by decide) (by omega) (fun c12 => ?_) (fun c12 => by omega)
    refine V_iload_2 d_mo_crewOf_211 ?_
    refine V_ireturn d_mo_crewOf_212 (hR _ _ ?_)
    refine ⟨v, e, rfl, hb, g3.1, fun j k hj => ?_⟩
    by_cases e : j = 219 ∧ k = 69
    · rw [e.1, e.2, g1.2, h69]
    · exact g1.1 j k hj e
  have inner : ∀ (i m : Nat), i + m + 1 = n →
      (∀ (z : Int) (a : Int → Int) (F : q_F) (v : Option Int) (u w : Value), 0 ≤ z → z < A 0 2 0 → q_cf f F n → F 270 i = z → (∀ j : Int, 0 ≤ j → j < i → F 270 j = a j ∧ 0 ≤ a j ∧ a j < A 0 2 0) → q_bod F A c (upA a i z) n (i + 1) → q_bst F n v (pcC a i + z * pwI (i + 1)) →
        (∀ (F' : q_F) (v' : Option Int) (u w : Value), q_cf f F' n → (∀ j : Int, j ≤ i → F' 270 j = F 270 j) → q_bod F' A c (upA a i z) n (i + 1) → v' = tad v (tml (some (pcP A c a i * 78125 + pcC a i)) (tml (wtS A c 1 z i) (q_cwS A c l (bt (2 ^ n - 1)) m (i + 1) (upA a i z)))) → q_bst F' n v' (pcC a i + (z + 1) * pwI (i + 1)) → V D C m_mo_crewOf 11 [vr D 219, vi l, vi (bs v'), vi i, u, w] [] (Zg g h) F') →
        V D C m_mo_crewOf 87 [vr D 219, vi l, vi (bs v), vi i, u, w] [] (Zg g h) F) →
      ∀ (k : Nat) (y : Int), y + 1 + k = A 0 2 0 → -1 ≤ y → ∀ (a : Int → Int) (F : q_F) (v : Option Int) (u w : Value), q_cf f F n → F 270 i = y → (∀ j : Int, 0 ≤ j → j < i → F 270 j = a j ∧ 0 ≤ a j ∧ a j < A 0 2 0) → (y = -1 → q_bod F A c a n i) → (0 ≤ y → q_bod F A c (upA a i y) n (i + 1)) → q_bst F n v (pcC a i + (y + 1) * pwI (i + 1)) →
        (∀ (F' : q_F) (v' : Option Int) (u w : Value), q_cf f F' n → (∀ j : Int, j < i → F' 270 j = F 270 j) → q_bod F' A c a n i → v' = tad v (tml (some (pcP A c a i * 78125 + pcC a i)) (crR A c l (bt (2 ^ n - 1)) m i a k (y + 1))) → q_bst F' n v' (pcC a i + A 0 2 0 * pwI (i + 1)) → V D C m_mo_crewOf 11 [vr D 219, vi l, vi (bs v'), vi ((i : Int) - 1), u, w] [] (Zg g h) F') →
        V D C m_mo_crewOf 11 [vr D 219, vi l, vi (bs v), vi i, u, w] [] (Zg g h) F := by
    intro i m him H k
    have hci := hc i (by omega) (by omega)
    have hbp := (hF.1.2.1 (c i) hci.1 hci.2.1).1
    have hpw := (pwI_at (i := i) (by omega)).2.2
    induction k using Nat.strongRecOn with
    | ind k ihk =>
      intro y hy hy1 a F v u w hf h270 hpre hq1 hq2 hv K
      have hbr := bs_rg hv
      have mid : ∀ F1 : q_F, q_cf f F1 n → (∀ j, F1 270 j = F 270 j) → (∀ j, F1 272 j = F 272 j) → q_bod F1 A c a n i → V D C m_mo_crewOf 47 [vr D 219, vi l, vi (bs v), vi i, u, w] [] (Zg g h) F1 := by
        intro F1 f1 f270 f272 hq
        have hS1 : Mst F1 A := hS.scr hF f1.1
        have e0 : F1 270 i = y := by rw [f270, h270]
        have hy2 : (A 0 2 0 - (y + 1)).toNat = k := by omega
        obtain ⟨n1, n2, n3⟩ := nxN_rg (A := A) c a l i k (y + 1)
        have hws := wsO_nx (A := A) c a l i (fun b => tml (wtS A c 1 (bdy A b) i) (q_cwS A c l (bt (2 ^ n - 1)) m (i + 1) (upA a i (bdy A b)))) k (y + 1)
        generalize hz : nxN A c a l i k (y + 1) = z at n1 n2 n3 hws
        refine V_aload_0 d_mo_crewOf_47 ?_
        refine V_iload_3 d_mo_crewOf_48 ?_
        refine V_aload_0 d_mo_crewOf_49 ?_
        refine V_cvI0 d_mo_crewOf_50 ml_mo_419 mv_mo_shadeMany (by decide) (Nat.le_of_ble_eq_true rfl) is_mo (ok_shadeMany hS1.1) ?_
        rintro _ f2 ⟨rfl, e2⟩
        rw [e2]; clear e2 f2
        refine V_iload_1 d_mo_crewOf_53 ?_
        refine V_cvI3 d_mo_crewOf_54 ml_mo_503 mv_mo_isNext (by decide) (Nat.le_of_ble_eq_true rfl) is_mo (ok_isNext hS1 hF hq (by omega) (by omega) hc2 e0 (Or.inl rfl) (by omega) hl) ?_
        rintro x F2 ⟨hx, e2⟩
        rw [hy2, hz] at hx e2
        rw [e2]; clear e2 F2
        refine V_if_ne 66 d_mo_crewOf_57 (by decide) (by rw [hx]; split <;> omega) (fun c57 => ?_) (fun c57 => ?_)
        · skip
          have hzl : z < A 0 2 0 := by
            rw [hx] at c57; split at c57
            · assumption
            · omega
          have hS2 : Mst (q_up F1 270 i z) A := hS1.scr hF (fun j k a b => q_up_at (by omega))
          have hq2 : q_bod (q_up F1 270 i z) A c a n i := hq.fr (fun j k hj => q_up_at hj)
          have eoc := hq2.1 i (by omega) (by omega)
          have ezz : bdy A z = z := by unfold bdy; rw [if_pos hzl]
          have hqa := bod_add hF (show i < n by omega) hc2 (show 0 ≤ z ∧ z ≤ A 0 2 0 by omega) hq2
          rw [ezz] at hqa
          have hix0 : hix A c i z = z := by unfold hix; rw [if_pos hzl]
          rw [hix0] at hqa
          refine V_aload_0 d_mo_crewOf_66 ?_
          refine V_getR d_mo_crewOf_67 fl_mo_169 is_mo r_mo_bodyHas ?_
          refine V_aload_0 d_mo_crewOf_70 ?_
          refine V_iload_3 d_mo_crewOf_71 ?_
          refine V_cvI1 d_mo_crewOf_72 ml_mo_494 mv_mo_hasOf (by decide) (Nat.le_of_ble_eq_true rfl) is_mo (ok_hasOf hS2.1 hF.1 (by omega) (q_up_eq _ _ _ _) (by omega) eoc ⟨hci.1, hci.2.1⟩) ?_
          rintro _ f2 ⟨rfl, e2⟩
          rw [e2]; clear e2 f2
          rw [if_pos hzl]
          refine V_dup2 d_mo_crewOf_75 rfl rfl ?_
          refine V_iald d_mo_crewOf_76 is_mo_bodyHas (by omega) (by omega) ?_
          refine V_iconst 1 d_mo_crewOf_77 ?_
          refine V_aload_0 d_mo_crewOf_78 ?_
          refine V_getR d_mo_crewOf_79 fl_mo_163 is_mo r_mo_open0 ?_
          refine V_iload_3 d_mo_crewOf_82 ?_
          refine V_iald d_mo_crewOf_83 is_mo_open0 (by omega) (by omega) ?_
          refine V_ishl d_mo_crewOf_84 ?_
          rw [eoc]
          refine V_ior d_mo_crewOf_85 ?_
          refine V_iast d_mo_crewOf_86 is_mo_bodyHas (by omega) (by omega) ?_
          refine H z a _ v _ _ (by omega) hzl ⟨fun j k a b => by rw [q_up_at (by omega), q_up_at (by omega)]; exact f1.1 j k a b, by rw [q_up_at (by decide), q_up_at (by decide)]; exact f1.2⟩ (by rw [q_up_at (by decide), q_up_eq]) (fun j j0 j1 => by rw [q_up_at (by decide), q_up_ne (Or.inr (by omega)), f270]; exact hpre j j0 j1) hqa (hv.mono (by have := Int.mul_le_mul_of_nonneg_right (show y + 1 ≤ z by omega) (show 0 ≤ pwI (i + 1) by omega); omega) (fun k => by rw [q_up_at (by decide), q_up_at (by decide), f272])) (fun F' v' u' w' g1 g2 g3 g4 g5 => ?_)
          refine ihk (A 0 2 0 - z - 1).toNat (by omega) z (by omega) (by omega) a F' v' u' w' g1 (by rw [g2 i (by omega), q_up_at (by decide), q_up_eq]) (fun j j0 j1 => by rw [g2 j (by omega), q_up_at (by decide), q_up_ne (Or.inr (by omega)), f270]; exact hpre j j0 j1) (fun e => by omega) (fun _ => g3) g5 (fun F'' v'' u'' w'' j1 j2 j3 j4 j5 => ?_)
          refine K F'' v'' u'' w'' j1 (fun j hj => by rw [j2 j hj, g2 j (by omega), q_up_at (by decide), q_up_ne (Or.inr (by omega)), f270]) j3 ?_ j5
          rw [j4, g4]
          unfold crR
          rw [hws, if_pos (by omega), ezz, show (y + 1 + (k : Int) - z - 1).toNat = (A 0 2 0 - z - 1).toNat by omega, t_sr.2.2.2.2.2.2.2, t_sr.1]
        · skip
          have hzl : z = A 0 2 0 := by
            rw [hx] at c57; split at c57
            · omega
            · omega
          refine V_iinc_3 d_mo_crewOf_60 rfl ?_
          refine V_goto 11 d_mo_crewOf_63 (by decide) ?_
          refine K (q_up F1 270 i z) v _ _ ⟨fun j k a b => by rw [q_up_at (by omega)]; exact f1.1 j k a b, by rw [q_up_at (by decide)]; exact f1.2⟩ (fun j hj => by rw [q_up_ne (Or.inr (by omega))]; exact f270 j) (hq.fr (fun j k hj => q_up_at hj)) ?_ (hv.mono (by have := Int.mul_le_mul_of_nonneg_right (show y + 1 ≤ A 0 2 0 by omega) (show 0 ≤ pwI (i + 1) by omega); omega) (fun k => by rw [q_up_at (by decide), f272]))
          unfold crR
          rw [hws, if_neg (by omega), tml_no, tad_nor]
      have hSF : Mst F A := hS.scr hF hf.1
      refine V_iload_3 d_mo_crewOf_11 ?_
      refine V_if_lt 211 d_mo_crewOf_12 (by decide) (by omega) (fun c12 => by omega) (fun c12 => ?_)
      refine V_aload_0 d_mo_crewOf_15 ?_
      refine V_getR d_mo_crewOf_16 fl_mo_166 is_mo r_mo_body ?_
      refine V_iload_3 d_mo_crewOf_19 ?_
      refine V_iald d_mo_crewOf_20 is_mo_body (by omega) (by omega) ?_
      rw [h270]
      refine V_if_lt 47 d_mo_crewOf_21 (by decide) (by omega) (fun c21 => ?_) (fun c21 => ?_)
      · skip
        exact mid F hf (fun _ => rfl) (fun _ => rfl) (hq1 (by omega))
      · skip
        have hq := hq2 (by omega)
        have eoc := hq.1 i (by omega) (by omega)
        have ezz : bdy A y = y := by unfold bdy; rw [if_pos (by omega)]
        have hix0 : hix A c i y = y := by unfold hix; rw [if_pos (by omega)]
        have hqd := bod_del hF (show i < n by omega) hc2 hci.2.2.1 hci.2.2.2 (show 0 ≤ y ∧ y ≤ A 0 2 0 by omega) (a := a) (f := F) (by rw [ezz]; exact hq)
        rw [hix0] at hqd
        refine V_aload_0 d_mo_crewOf_24 ?_
        refine V_getR d_mo_crewOf_25 fl_mo_169 is_mo r_mo_bodyHas ?_
        refine V_aload_0 d_mo_crewOf_28 ?_
        refine V_iload_3 d_mo_crewOf_29 ?_
        refine V_cvI1 d_mo_crewOf_30 ml_mo_494 mv_mo_hasOf (by decide) (Nat.le_of_ble_eq_true rfl) is_mo (ok_hasOf hSF.1 hF.1 (by omega) h270 (by omega) eoc ⟨hci.1, hci.2.1⟩) ?_
        rintro _ f2 ⟨rfl, e2⟩
        rw [e2]; clear e2 f2
        rw [if_pos (by omega)]
        refine V_dup2 d_mo_crewOf_33 rfl rfl ?_
        refine V_iald d_mo_crewOf_34 is_mo_bodyHas (by omega) (by omega) ?_
        refine V_iconst 1 d_mo_crewOf_35 ?_
        refine V_aload_0 d_mo_crewOf_36 ?_
        refine V_getR d_mo_crewOf_37 fl_mo_163 is_mo r_mo_open0 ?_
        refine V_iload_3 d_mo_crewOf_40 ?_
        refine V_iald d_mo_crewOf_41 is_mo_open0 (by omega) (by omega) ?_
        rw [eoc]
        refine V_ishl d_mo_crewOf_42 ?_
        refine V_iconst (-1) d_mo_crewOf_43 ?_
        refine V_ixor d_mo_crewOf_44 ?_
        refine V_iand d_mo_crewOf_45 ?_
        refine V_iast d_mo_crewOf_46 is_mo_bodyHas (by omega) (by omega) ?_
        exact mid _ ⟨fun j k a b => by rw [q_up_at (by omega)]; exact hf.1 j k a b, by rw [q_up_at (by decide)]; exact hf.2⟩ (fun j => q_up_at (by decide)) (fun j => q_up_at (by decide)) hqd
  have rows : ∀ (i : Nat), i + 1 = n → ∀ (z : Int) (a : Int → Int) (F : q_F) (v : Option Int) (u w : Value), 0 ≤ z → z < A 0 2 0 → q_cf f F n → F 270 i = z → (∀ j : Int, 0 ≤ j → j < i → F 270 j = a j ∧ 0 ≤ a j ∧ a j < A 0 2 0) → q_bod F A c (upA a i z) n (i + 1) → q_bst F n v (pcC a i + z * pwI (i + 1)) →
        (∀ (F' : q_F) (v' : Option Int) (u w : Value), q_cf f F' n → (∀ j : Int, j ≤ i → F' 270 j = F 270 j) → q_bod F' A c (upA a i z) n (i + 1) → v' = tad v (tml (some (pcP A c a i * 78125 + pcC a i)) (tml (wtS A c 1 z i) (q_cwS A c l (bt (2 ^ n - 1)) 0 (i + 1) (upA a i z)))) → q_bst F' n v' (pcC a i + (z + 1) * pwI (i + 1)) → V D C m_mo_crewOf 11 [vr D 219, vi l, vi (bs v'), vi i, u, w] [] (Zg g h) F') →
        V D C m_mo_crewOf 87 [vr D 219, vi l, vi (bs v), vi i, u, w] [] (Zg g h) F := by
    intro i hi z a F v u w z0 z1 hf h270 hpre hq hv K
    have hbr := bs_rg hv
    have hSF : Mst F A := hS.scr hF hf.1
    obtain ⟨p1, p2, p3⟩ := pwI_at (i := i) (by omega)
    have hb : ∀ j : Int, 0 ≤ j → j < n → F 270 j = upA a i z j ∧ 0 ≤ upA a i z j ∧ upA a i z j < A 0 2 0 := fun j j0 j1 => by
      unfold upA
      by_cases e : j = i
      · rw [if_pos e, e]; exact ⟨h270, z0, z1⟩
      · rw [if_neg e]; exact hpre j j0 (by omega)
    have cC : pcC (upA a i z) n = pcC a i + z * pwI (i + 1) := by
      rw [← hi, pcC, pcC_up a i z i (by omega)]; unfold upA; rw [if_pos rfl]
    have cP : pcP A c (upA a i z) n = pcP A c a i + A 9 z (c i) := by
      rw [← hi, pcP, pcP_up c a i z i (by omega)]; unfold upA; rw [if_pos rfl]
    have gC := pcC_rg (a := upA a i z) n (by omega) (fun k k0 k1 => by have := hb k k0 k1; omega)
    have gP := pcP_rg hF (c := c) (a := upA a i z) n (fun k k0 k1 => (hb k k0 k1).2) hc2
    have hp7 : 0 < pwI n := by
      have : ∀ n : Nat, n < 8 → 0 < pwI n := by decide +kernel
      exact this n (by omega)
    have hrow := tad_row (v := v) (P := pcP A c (upA a i z) n) (c := pcC (upA a i z) n) (B := pcC a i + z * pwI (i + 1)) (fun x hx => ⟨(hv x hx).1, (hv x hx).2.2.1⟩) (by omega) gP.1 (by omega)
    have heq : tml (some (pcP A c a i * 78125 + pcC a i)) (tml (wtS A c 1 z i) (q_cwS A c l (bt (2 ^ n - 1)) 0 (i + 1) (upA a i z))) = some (pcP A c (upA a i z) n * 78125 + pcC (upA a i z) n) := by
      unfold q_cwS wtS
      rw [SA, if_neg (by decide), cP, cC]
      show some _ = some _
      congr 1
      rw [Int.toNat_natCast, p1]
      omega
    have eN : F 219 69 = n := hf.2
    have copy : ∀ (m : Nat) (k : Int) (F' : q_F) (s0 : Int), k + m = n → 0 ≤ k → (∀ j i, ¬ j = 272 → F' j i = F j i) → (∀ j : Int, 0 ≤ j → j < k → F' 272 j = upA a i z j) → (∀ (F'' : q_F) (u w : Value), (∀ j i, ¬ j = 272 → F'' j i = F j i) → (∀ j : Int, 0 ≤ j → j < n → F'' 272 j = upA a i z j) → V D C m_mo_crewOf 11 [vr D 219, vi l, vi (pcP A c (upA a i z) n), vi i, u, w] [] (Zg g h) F'') → V D C m_mo_crewOf 179 [vr D 219, vi l, vi (pcP A c (upA a i z) n), vi i, vi s0, vi k] [] (Zg g h) F' := by
      intro m
      induction m with
      | zero =>
        intro k F' s0 hm k0 hf' hr K'
        have eN' : F' 219 69 = n := by rw [hf' _ _ (by decide)]; exact eN
        refine V_iload_5 d_mo_crewOf_179 ?_
        refine V_aload_0 d_mo_crewOf_181 ?_
        refine V_getI d_mo_crewOf_182 fl_mo_491 is_mo ?_
        rw [eN']
        refine V_icmp_ge 208 d_mo_crewOf_185 (by decide) (by omega) (by omega) (fun c185 => ?_) (fun c185 => by omega)
        refine V_goto 11 d_mo_crewOf_208 (by decide) ?_
        exact K' F' _ _ hf' (fun j j0 j1 => hr j j0 (by omega))
      | succ m ih =>
        intro k F' s0 hm k0 hf' hr K'
        have eN' : F' 219 69 = n := by rw [hf' _ _ (by decide)]; exact eN
        have ek : F' 270 k = upA a i z k := by rw [hf' _ _ (by decide)]; exact (hb k k0 (by omega)).1
        refine V_iload_5 d_mo_crewOf_179 ?_
        refine V_aload_0 d_mo_crewOf_181 ?_
        refine V_getI d_mo_crewOf_182 fl_mo_491 is_mo ?_
        rw [eN']
        refine V_icmp_ge 208 d_mo_crewOf_185 (by decide) (by omega) (by omega) (fun c185 => by omega) (fun c185 => ?_)
        refine V_aload_0 d_mo_crewOf_188 ?_
        refine V_getR d_mo_crewOf_189 fl_mo_172 is_mo r_mo_bestBody ?_
        refine V_iload_5 d_mo_crewOf_192 ?_
        refine V_aload_0 d_mo_crewOf_194 ?_
        refine V_getR d_mo_crewOf_195 fl_mo_166 is_mo r_mo_body ?_
        refine V_iload_5 d_mo_crewOf_198 ?_
        refine V_iald d_mo_crewOf_200 is_mo_body (by omega) (by omega) ?_
        rw [ek]
        refine V_iast d_mo_crewOf_201 is_mo_bestBody (by omega) (by omega) ?_
        refine V_iinc_5 d_mo_crewOf_202 rfl ?_
        refine V_goto 179 d_mo_crewOf_205 (by decide) ?_
        refine ih _ _ _ (by omega) (by omega) (fun j i hj => by rw [q_up_at hj]; exact hf' j i hj) (fun j j0 j1 => ?_) K'
        by_cases e : j = k
        · rw [q_up_is e, e]
        · rw [q_up_ne (Or.inr e)]; exact hr j j0 (by omega)
    have sums : ∀ (m : Nat) (k : Nat) (s : Int), k + m = n → s = pcP A c (upA a i z) k → V D C m_mo_crewOf 116 [vr D 219, vi l, vi (bs v), vi i, vi s, vi k] [] (Zg g h) F := by
      intro m
      induction m with
      | zero =>
        intro k s hm hs
        have ek : k = n := by omega
        subst ek
        subst hs
        refine V_iload_5 d_mo_crewOf_116 ?_
        refine V_aload_0 d_mo_crewOf_118 ?_
        refine V_getI d_mo_crewOf_119 fl_mo_491 is_mo ?_
        rw [eN]
        refine V_icmp_ge 159 d_mo_crewOf_122 (by decide) (by omega) (by omega) (fun c122 => ?_) (fun c122 => by omega)
        refine V_iload_2 d_mo_crewOf_159 ?_
        refine V_iconst (-1) d_mo_crewOf_160 ?_
        refine V_icmp_eq 173 d_mo_crewOf_161 (by decide) (by omega) (by omega) (fun c161 => ?_) (fun c161 => ?_)
        · skip
          refine V_iload_4 d_mo_crewOf_173 ?_
          refine V_istore_2 d_mo_crewOf_175 rfl ?_
          refine V_iconst 0 d_mo_crewOf_176 ?_
          refine V_istore_5 d_mo_crewOf_177 rfl ?_
          refine copy k 0 F _ (by omega) (by decide) (fun _ _ _ => rfl) (fun j a b => by omega) (fun F'' u'' w'' j1 j2 => ?_)
          have hbs : bs (some (pcP A c (upA a i z) k * 78125 + pcC (upA a i z) k)) = pcP A c (upA a i z) k := by
            show (_ : Int) / 78125 = _
            omega
          rw [← hbs]
          refine K F'' _ u'' w'' ⟨fun j k a b => by rw [j1 j k (by omega)]; exact hf.1 j k a b, by rw [j1 _ _ (by decide)]; exact hf.2⟩ (fun j _ => j1 _ _ (by decide)) ⟨fun k k0 k1 => by rw [j1 _ _ (by decide)]; exact hq.1 k k0 k1, fun b b0 b1 => by rw [j1 _ _ (by decide)]; exact hq.2.1 b b0 b1, fun b b0 b1 => by rw [j1 _ _ (by decide)]; exact hq.2.2 b b0 b1⟩ ?_ (fun x hx => ?_)
          · rw [heq, hrow, if_pos (by omega)]
          · cases hx
            refine ⟨by omega, by omega, by rw [Int.add_mul, Int.one_mul]; omega, fun q q0 q1 => ?_⟩
            rw [j2 q q0 q1]
            unfold dg
            rw [show (pcP A c (upA a i z) k * 78125 + pcC (upA a i z) k) % 78125 = pcC (upA a i z) k by omega]
            exact (pcC_dg (by omega) (fun r r0 r1 => by have := hb r r0 r1; omega) q0 q1).symm
        · skip
          refine V_iload_4 d_mo_crewOf_164 ?_
          refine V_iload_2 d_mo_crewOf_166 ?_
          refine V_icmp_lt 173 d_mo_crewOf_167 (by decide) (by omega) (by omega) (fun c167 => ?_) (fun c167 => ?_)
          · skip
            refine V_iload_4 d_mo_crewOf_173 ?_
            refine V_istore_2 d_mo_crewOf_175 rfl ?_
            refine V_iconst 0 d_mo_crewOf_176 ?_
            refine V_istore_5 d_mo_crewOf_177 rfl ?_
            refine copy k 0 F _ (by omega) (by decide) (fun _ _ _ => rfl) (fun j a b => by omega) (fun F'' u'' w'' j1 j2 => ?_)
            have hbs : bs (some (pcP A c (upA a i z) k * 78125 + pcC (upA a i z) k)) = pcP A c (upA a i z) k := by
              show (_ : Int) / 78125 = _
              omega
            rw [← hbs]
            refine K F'' _ u'' w'' ⟨fun j k a b => by rw [j1 j k (by omega)]; exact hf.1 j k a b, by rw [j1 _ _ (by decide)]; exact hf.2⟩ (fun j _ => j1 _ _ (by decide)) ⟨fun k k0 k1 => by rw [j1 _ _ (by decide)]; exact hq.1 k k0 k1, fun b b0 b1 => by rw [j1 _ _ (by decide)]; exact hq.2.1 b b0 b1, fun b b0 b1 => by rw [j1 _ _ (by decide)]; exact hq.2.2 b b0 b1⟩ ?_ (fun x hx => ?_)
            · rw [heq, hrow, if_pos (by omega)]
            · cases hx
              refine ⟨by omega, by omega, by rw [Int.add_mul, Int.one_mul]; omega, fun q q0 q1 => ?_⟩
              rw [j2 q q0 q1]
              unfold dg
              rw [show (pcP A c (upA a i z) k * 78125 + pcC (upA a i z) k) % 78125 = pcC (upA a i z) k by omega]
              exact (pcC_dg (by omega) (fun r r0 r1 => by have := hb r r0 r1; omega) q0 q1).symm
          · skip
            refine V_goto 11 d_mo_crewOf_170 (by decide) ?_
            refine K F v _ _ hf (fun _ _ => rfl) hq ?_ (hv.mono (by rw [Int.add_mul, Int.one_mul]; omega) (fun _ => rfl))
            rw [heq, hrow, if_neg (by omega)]
      | succ m ih =>
        intro k s hm hs
        have ek := hb k (by omega) (by omega)
        have bc := hc2 k (by omega) (by omega)
        obtain ⟨⟨-, e9⟩, -, b9⟩ := hSF.1.pp hF.1 (k := upA a i z k) (s := c k) (by omega) bc
        refine V_iload_5 d_mo_crewOf_116 ?_
        refine V_aload_0 d_mo_crewOf_118 ?_
        refine V_getI d_mo_crewOf_119 fl_mo_491 is_mo ?_
        rw [eN]
        refine V_icmp_ge 159 d_mo_crewOf_122 (by decide) (by omega) (by omega) (fun c122 => by omega) (fun c122 => ?_)
        refine V_iload_4 d_mo_crewOf_125 ?_
        refine V_aload_0 d_mo_crewOf_127 ?_
        refine V_getR d_mo_crewOf_128 fl_mo_145 is_mo r_mo_priceOf ?_
        refine V_bipush 24 d_mo_crewOf_131 (by decide) ?_
        refine V_aload_0 d_mo_crewOf_133 ?_
        refine V_getR d_mo_crewOf_134 fl_mo_166 is_mo r_mo_body ?_
        refine V_iload_5 d_mo_crewOf_137 ?_
        refine V_iald d_mo_crewOf_139 is_mo_body (by omega) (by omega) ?_
        rw [ek.1]
        refine V_imul d_mo_crewOf_140 ?_
        refine V_aload_0 d_mo_crewOf_141 ?_
        refine V_getR d_mo_crewOf_142 fl_mo_163 is_mo r_mo_open0 ?_
        refine V_iload_5 d_mo_crewOf_145 ?_
        refine V_iald d_mo_crewOf_147 is_mo_open0 (by omega) (by omega) ?_
        rw [hq.1 k (by omega) (by omega)]
        refine V_iadd d_mo_crewOf_148 ?_
        refine V_iald d_mo_crewOf_149 is_mo_priceOf (by omega) (by omega) ?_
        rw [e9]
        refine V_iadd d_mo_crewOf_150 ?_
        refine V_istore_4 d_mo_crewOf_151 rfl ?_
        refine V_iinc_5 d_mo_crewOf_153 rfl ?_
        refine V_goto 116 d_mo_crewOf_156 (by decide) ?_
        exact ih (k + 1) _ (by omega) (by rw [pcP, hs])
    refine V_iload_3 d_mo_crewOf_87 ?_
    refine V_aload_0 d_mo_crewOf_88 ?_
    refine V_getI d_mo_crewOf_89 fl_mo_491 is_mo ?_
    rw [eN]
    refine V_iconst 1 d_mo_crewOf_92 ?_
    refine V_isub d_mo_crewOf_93 ?_
    refine V_icmp_ge 110 d_mo_crewOf_94 (by decide) (by omega) (by omega) (fun c94 => ?_) (fun c94 => by omega)
    refine V_iconst 0 d_mo_crewOf_110 ?_
    refine V_istore_4 d_mo_crewOf_111 rfl ?_
    refine V_iconst 0 d_mo_crewOf_113 ?_
    refine V_istore_5 d_mo_crewOf_114 rfl ?_
    exact sums n 0 _ (by omega) rfl
  have go : ∀ (m i : Nat), i + m + 1 = n → ∀ (k : Nat) (y : Int), y + 1 + k = A 0 2 0 → -1 ≤ y → ∀ (a : Int → Int) (F : q_F) (v : Option Int) (u w : Value), q_cf f F n → F 270 i = y → (∀ j : Int, 0 ≤ j → j < i → F 270 j = a j ∧ 0 ≤ a j ∧ a j < A 0 2 0) → (y = -1 → q_bod F A c a n i) → (0 ≤ y → q_bod F A c (upA a i y) n (i + 1)) → q_bst F n v (pcC a i + (y + 1) * pwI (i + 1)) →
        (∀ (F' : q_F) (v' : Option Int) (u w : Value), q_cf f F' n → (∀ j : Int, j < i → F' 270 j = F 270 j) → q_bod F' A c a n i → v' = tad v (tml (some (pcP A c a i * 78125 + pcC a i)) (crR A c l (bt (2 ^ n - 1)) m i a k (y + 1))) → q_bst F' n v' (pcC a i + A 0 2 0 * pwI (i + 1)) → V D C m_mo_crewOf 11 [vr D 219, vi l, vi (bs v'), vi ((i : Int) - 1), u, w] [] (Zg g h) F') →
        V D C m_mo_crewOf 11 [vr D 219, vi l, vi (bs v), vi i, u, w] [] (Zg g h) F := by
    intro m
    induction m with
    | zero => intro i hi; exact inner i 0 hi (rows i hi)
    | succ m ih =>
      intro i hi
      refine inner i (m + 1) hi (fun z a F v u w z0 z1 hf h270 hpre hq hv K => ?_)
      have hbr := bs_rg hv
      have eN : F 219 69 = n := hf.2
      obtain ⟨p1, p2, p3⟩ := pwI_at (i := i) (by omega)
      obtain ⟨r1, r2, r3⟩ := pwI_at (i := i + 1) (by omega)
      have cC : pcC (upA a i z) (i + 1) = pcC a i + z * pwI (i + 1) := by
        rw [pcC, pcC_up a i z i (by omega)]; unfold upA; rw [if_pos rfl]
      have cP : pcP A c (upA a i z) (i + 1) = pcP A c a i + A 9 z (c i) := by
        rw [pcP, pcP_up c a i z i (by omega)]; unfold upA; rw [if_pos rfl]
      have hcost : some (pcP A c (upA a i z) (i + 1) * 78125 + pcC (upA a i z) (i + 1)) = tml (some (pcP A c a i * 78125 + pcC a i)) (wtS A c 1 z i) := by
        unfold wtS
        rw [if_neg (by decide), cP, cC]
        show some _ = some _
        congr 1
        rw [Int.toNat_natCast, p1]
        omega
      refine V_iload_3 d_mo_crewOf_87 ?_
      refine V_aload_0 d_mo_crewOf_88 ?_
      refine V_getI d_mo_crewOf_89 fl_mo_491 is_mo ?_
      rw [eN]
      refine V_iconst 1 d_mo_crewOf_92 ?_
      refine V_isub d_mo_crewOf_93 ?_
      refine V_icmp_ge 110 d_mo_crewOf_94 (by decide) (by omega) (by omega) (fun c94 => by omega) (fun c94 => ?_)
      refine V_iinc_3 d_mo_crewOf_97 rfl ?_
      refine V_aload_0 d_mo_crewOf_100 ?_
      refine V_getR d_mo_crewOf_101 fl_mo_166 is_mo r_mo_body ?_
      refine V_iload_3 d_mo_crewOf_104 ?_
      refine V_iconst (-1) d_mo_crewOf_105 ?_
      refine V_iast d_mo_crewOf_106 is_mo_body (by omega) (by omega) ?_
      refine V_goto 11 d_mo_crewOf_107 (by decide) ?_
      refine ih (i + 1) (by omega) (A 0 2 0).toNat (-1) (by omega) (by omega) (upA a i z) _ v _ _ ⟨fun j k a b => by rw [q_up_at (by omega)]; exact hf.1 j k a b, by rw [q_up_at (by decide)]; exact hf.2⟩ (q_up_eq _ _ _ _) (fun j j0 j1 => ?_) (fun _ => hq.fr (fun j k hj => q_up_at hj)) (fun e => by omega) (hv.mono (by rw [cC]; omega) (fun k => by rw [q_up_at (by decide)])) (fun F' v' u' w' g1 g2 g3 g4 g5 => ?_)
      · rw [q_up_ne (Or.inr (by omega))]
        unfold upA
        by_cases e : j = i
        · rw [if_pos e, e]; exact ⟨h270, z0, z1⟩
        · rw [if_neg e]; exact hpre j j0 (by omega)
      · rw [show ((i + 1 : Nat) : Int) - 1 = (i : Int) by omega]
        refine K F' v' u' w' g1 (fun j hj => by rw [g2 j (by omega), q_up_ne (Or.inr (by omega))]) g3 ?_ (g5.mono ?_ (fun _ => rfl))
        · rw [g4, show (-1 : Int) + 1 = 0 by decide, crR_all (by omega) (hqt (i + 1) (by omega)), hcost, t_sr.2.2.2.1]
        · have := Int.mul_le_mul_of_nonneg_right (show A 0 2 0 ≤ 5 by omega) (show 0 ≤ pwI (i + 1 + 1) by omega)
          rw [cC, Int.add_mul, Int.one_mul]; omega
  refine V_iconst (-1) d_mo_crewOf_0 ?_
  refine V_istore_2 d_mo_crewOf_1 rfl ?_
  refine V_iconst 0 d_mo_crewOf_2 ?_
  refine V_istore_3 d_mo_crewOf_3 rfl ?_
  refine V_aload_0 d_mo_crewOf_4 ?_
  refine V_getR d_mo_crewOf_5 fl_mo_166 is_mo r_mo_body ?_
  refine V_iconst 0 d_mo_crewOf_8 ?_
  refine V_iconst (-1) d_mo_crewOf_9 ?_
  refine V_iast d_mo_crewOf_10 is_mo_body (by omega) (by omega) ?_
  refine go (n - 1) 0 (by omega) (A 0 2 0).toNat (-1) (by omega) (by omega) a7 _ none _ _ ⟨fun j k a b => q_up_at (by omega), by rw [q_up_at (by decide)]; exact h69⟩ (q_up_eq _ _ _ _) (fun j a b => by omega) (fun _ => hq0.fr (fun j k hj => q_up_at hj)) (fun e => by omega) (fun x hx => by cases hx) (fun F' v' u' w' g1 g2 g3 g4 g5 => ?_)
  rw [show (-1 : Int) + 1 = 0 by decide, crR_all (by omega) (hqt 0 (by omega)), show n - 1 + 1 = n by omega] at g4
  have e2 : v' = q_cwS A c l (bt (2 ^ n - 1)) n 0 a7 := by
    rw [g4]; cases q_cwS A c l (bt (2 ^ n - 1)) n 0 a7 <;> simp [tad, tml, pcP, pcC]
  exact fin F' v' u' w' g1 g3 e2 (g5.mono (by
    have := Int.mul_le_mul_of_nonneg_right (show A 0 2 0 ≤ 5 by omega) (show 0 ≤ pwI (0 + 1) by decide)
    have e3 : pwI (0 + 1) = 15625 := by decide
    have e4 : pcC a7 0 = 0 := rfl
    omega) (fun _ => rfl))
end MO17
