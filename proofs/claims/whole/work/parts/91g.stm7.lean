/-! the class reads statements: rules, all of them -/
abbrev q_PR : Type := q_R (q_F × List Int × Int × Int)
def lf (L : List Int) (r : q_R (q_F × Int × Int)) : q_PR := match r with
  | .inl e => .inl e
  | .inr s => .inr (s.1, L, s.2.1, s.2.2)
def sRu4 (S : q_F) (L : List Int) (q d : Int) : q_PR := .inr (q_up (q_up S 106 (S 1 5 + 1) L.length) 1 5 (S 1 5 + 1), L, q, d)
def sRu3 (T : Int → Int) (N : Int) (S : q_F) (L : List Int) (q d : Int) : q_PR := rb (rq T N 8 q d) (fun s => sRu4 (q_up S 107 (S 1 5) L.length) (L ++ s.1) s.2.1 s.2.2)
def sRu2 (T : Int → Int) (N : Int) (S : q_F) (L : List Int) (q d : Int) : q_PR := rb (l_word T N 14 q d) (fun u => sRu3 T N S L u.1 u.2)
def sRule (S : q_F) (T : Int → Int) (N : Int) (L : List Int) (p e : Int) : q_PR := rb (rq T N 3 p e) (fun s => sRu2 T N (q_up S 106 (S 1 5) L.length) (L ++ s.1) s.2.1 s.2.2)
def bgn (S : q_F) (T : Int → Int) (N k p : Int) (X : Int → Int → q_PR) : q_PR := if S 1 k < mst k then X (sk T N (le T N p)) (le T N p) else .inl (5, p)
/-- one statement; the first tells the traits -/
def sStm (b : Bool) (S : q_F) (T : Int → Int) (N : Int) (L : List Int) (p e : Int) : q_PR :=
  if b then (if wd T N p e = 0 then lf L (sTr T N 6 0 S (sk T N (le T N p)) (le T N p)) else .inl (1, p))
  else if wd T N p e = 1 then bgn S T N 1 p (fun q d => lf L (sPerson S T N q d))
  else if wd T N p e = 2 then bgn S T N 2 p (fun q d => lf L (sShade S T N q d))
  else if wd T N p e = 5 then bgn S T N 3 p (fun q d => lf L (sNew S T N 3 q d))
  else if wd T N p e = 6 then bgn S T N 6 p (fun q d => lf L (sRoad S T N q d))
  else if wd T N p e = 7 then bgn S T N 4 p (fun q d => lf L (sSeen S T N q d))
  else if wd T N p e = 13 then bgn S T N 5 p (fun q d => sRule S T N L q d)
  else if wd T N p e = 15 then lf L (sTithe S T N (sk T N (le T N p)) (le T N p))
  else .inl (1, p)
def cG (h : Int) (f f' : q_F) (T : Int → Int) (N x : Int) (r : q_PR) : Prop := match r with
  | .inl e => x = 0 ∧ f' 1 3 = e.1 ∧ f' 1 4 = e.2 ∧ sK h f f'
  | .inr s => x = 1 ∧ cT h f f' s.1 T N s.2.2.1 s.2.2.2 s.2.1
section STM7
variable {D : q_D} {f f' S : q_F} {A : q_As} {g h : Int} {T : Int → Int} {N p e : Int}
theorem cS.lf {x : Int} {L : List Int} {r : q_R (q_F × Int × Int)} (hx : cS h f f' T N x L r) : cG h f f' T N x (lf L r) := by
  cases r with
  | inl e => exact hx
  | inr s =>
    obtain ⟨a1, a2, a3, a4, a5, a6, a7⟩ := hx
    exact ⟨a1, ⟨a2, a3, a4⟩, a5, a6, a7⟩
theorem cG.tr {F F' : q_F} {x : Int} {L : List Int} {S1 : q_F} {q d : Int} {r : q_PR} (hT : cT h f F S1 T N q d L) (hx : cG h F F' T N x r) : cG h f F' T N x r := by
  cases r with
  | inl e => exact ⟨hx.1, hx.2.1, hx.2.2.1, hT.2.2.2.tr hx.2.2.2⟩
  | inr s => exact ⟨hx.1, hx.2.1, by rw [hx.2.2.1, hT.2.1], by rw [hx.2.2.2.1, hT.2.2.1], hT.2.2.2.tr hx.2.2.2.2⟩
theorem cG.rg {x : Int} {r : q_PR} (hx : cG h f f' T N x r) : x = 0 ∨ x = 1 := by
  cases r with
  | inl e => exact Or.inl hx.1
  | inr s => exact Or.inr hx.1
theorem cE.up6 (hh : q_G h) (hE : cE h f S) (k x : Int) : cE h (q_up f 6 k x) (q_up S 106 k x) := by
  have := q_G51 hh
  refine ⟨fun a b a0 a1 => ?_, fun b => ?_, fun b => ?_⟩
  · rw [q_up_at (by omega), q_up_at (by omega)]; exact hE.1 a b a0 a1
  · unfold q_up
    by_cases e : b = k
    · rw [if_pos ⟨rfl, e⟩, if_pos ⟨rfl, e⟩]
    · rw [if_neg (fun h => e h.2), if_neg (fun h => e h.2)]; exact hE.2.1 b
  · rw [q_up_at (by omega), q_up_at (by omega)]; exact hE.2.2 b
theorem cE.up7 (hh : q_G h) (hE : cE h f S) (k x : Int) : cE h (q_up f 7 k x) (q_up S 107 k x) := by
  have := q_G51 hh
  refine ⟨fun a b a0 a1 => ?_, fun b => ?_, fun b => ?_⟩
  · rw [q_up_at (by omega), q_up_at (by omega)]; exact hE.1 a b a0 a1
  · rw [q_up_at (by omega), q_up_at (by omega)]; exact hE.2.1 b
  · unfold q_up
    by_cases e : b = k
    · rw [if_pos ⟨rfl, e⟩, if_pos ⟨rfl, e⟩]
    · rw [if_neg (fun h => e h.2), if_neg (fun h => e h.2)]; exact hE.2.2 b
theorem cT.up67 (hh : q_G h) {F F' S' : q_F} {L : List Int} {c k x : Int} (hc : c = 6 ∨ c = 7) (hT : cT h f F S T N p e L) (hE : cE h (q_up F c k x) S') : cT h f (q_up F c k x) S' T N p e L :=
  ⟨⟨hT.1.1.fr (fun j i hj => q_up_at (by omega)), hE, ⟨by rw [q_up_at (by omega)]; exact hT.1.2.2.1, fun i hi => by rw [q_up_at (by omega)]; exact hT.1.2.2.2 i hi⟩⟩, by rw [q_up_at (by omega)]; exact hT.2.1, by rw [q_up_at (by omega)]; exact hT.2.2.1, fun j i a b c => by rw [q_up_at (by omega)]; exact hT.2.2.2 j i a b c⟩
theorem cR.in (hh : q_G h) {F F' : q_F} {x : Int} {L : List Int} {q d : Int} {r : q_R (List Int × Int × Int)} {s : List Int × Int × Int} (hT : cT h f F S T N q d L) (hx : cR F F' T N x L r) (hr : r = .inr s) : x = 1 ∧ cT h f F' S T N s.2.1 s.2.2 (L ++ s.1) := by
  subst hr
  have hg2 := q_G51 hh
  obtain ⟨a1, a2, a3, a4, a5, a6⟩ := hx
  refine ⟨a1, ⟨a2, ⟨fun j k j0 j1 => ?_, fun k => ?_, fun k => ?_⟩, a3⟩, by rw [a4, hT.2.1], by rw [a5, hT.2.2.1], hT.2.2.2.tr (fun j k a b c => a6 j k a (by omega) (by omega))⟩
  · rw [a6 _ _ (by omega) (by omega) (by omega)]; exact hT.1.2.1.1 j k j0 j1
  · rw [a6 _ _ (by omega) (by omega) (by omega)]; exact hT.1.2.1.2.1 k
  · rw [a6 _ _ (by omega) (by omega) (by omega)]; exact hT.1.2.1.2.2 k
theorem cR.il {F F' : q_F} {x : Int} {L : List Int} {q d : Int} {r : q_R (List Int × Int × Int)} {e0 : Int × Int} (hT : cT h f F S T N q d L) (hx : cR F F' T N x L r) (hr : r = .inl e0) : x = 0 ∧ cG h f F' T N 0 (.inl e0) := by
  subst hr
  obtain ⟨a1, a2, a3, a4⟩ := hx
  exact ⟨a1, rfl, a2, a3, hT.2.2.2.tr (fun j k a b c => a4 j k a (by omega) (by omega))⟩
theorem cO.ig {F F' : q_F} {x : Int} {L : List Int} {q d : Int} {r : q_R (Int × Int)} {e0 : Int × Int} (hT : cT h f F S T N q d L) (hx : cO F F' T N x r) (hr : r = .inl e0) : x = 0 ∧ cG h f F' T N 0 (.inl e0) := by
  subst hr
  obtain ⟨a1, a2, a3, a4⟩ := hx
  exact ⟨a1, rfl, a2, a3, hT.2.2.2.tr a4.s⟩
theorem ok_readRule (hh : q_G h) {L : List Int} (hC : cM h f S T N p e L) (hL : (L.length : Int) ≤ p) (hroom : 0 ≤ S 1 5 ∧ S 1 5 < 6) : OkI D m_ru_readRule [vr D 4, vr D h] (Zg g h) f (fun x f' => cG h f f' T N x (sRule S T N L p e)) := by
  have hg2 := q_G51 hh
  have hp := hC.1.pr
  have hc1 := hC.2.1.1 1 5 (by decide) (by decide)
  have hlen := hC.2.2.1
  have hT0 := cT.refl hC
  refine OkB_of (L0 := [vr D 4, vr D h, vu]) mi_ru_readRule rfl rfl (Nat.le_of_ble_eq_true rfl) (fun C hR => ?_)
  generalize hr : sRule S T N L p e = r at *
  unfold sRule at hr
  generalize hi : S 1 5 = i at *
  have K59 : ∀ (F S1 : q_F) (q d : Int) (L1 : List Int), cT h f F S1 T N q d L1 → S1 1 5 = i → sRu4 S1 L1 q d = r → V D C m_ru_readRule 59 [vr D 4, vr D h, vi i] [] (Zg g h) F := by
    intro F S1 q d L1 hT1 h15 hr1
    unfold sRu4 at hr1
    rw [h15] at hr1
    have hl := hT1.1.2.2.1
    have hT2 := hT1.up67 hh (F' := F) (Or.inl rfl) (hT1.1.2.1.up6 hh (i + 1) L1.length)
    have hc : (q_up F 6 (i + 1) L1.length) (h + 1) 5 = i := by rw [hT2.1.2.1.1 1 5 (by decide) (by decide), q_up_at (by decide)]; exact h15
    refine V_aload_0 d_ru_readRule_59 ?_
    refine V_getR d_ru_readRule_60 fl_ru_15 is_ru r_ru_sumStart ?_
    refine V_iload_2 d_ru_readRule_63 ?_
    refine V_iconst 1 d_ru_readRule_64 ?_
    refine V_iadd d_ru_readRule_65 ?_
    refine V_aload_0 d_ru_readRule_66 ?_
    refine V_getI d_ru_readRule_67 fl_ru_33 is_ru ?_
    rw [hl]
    refine V_iast d_ru_readRule_70 is_ru_sumStart (by omega) (by omega) ?_
    refine V_aload_1 d_ru_readRule_71 ?_
    refine V_getR d_ru_readRule_72 fl_ru_37 (is_gd hh) (r_gd_counts hh) ?_
    refine V_iconst 5 d_ru_readRule_75 ?_
    refine V_dup2 d_ru_readRule_76 rfl rfl ?_
    refine V_iald d_ru_readRule_77 (is_gd_counts hh) (by omega) (by omega) ?_
    refine V_iconst 1 d_ru_readRule_78 ?_
    rw [hc]
    refine V_iadd d_ru_readRule_79 ?_
    refine V_iast d_ru_readRule_80 (is_gd_counts hh) (by omega) (by omega) ?_
    refine V_iconst 1 d_ru_readRule_81 ?_
    refine V_ireturn d_ru_readRule_82 (hR _ _ (by decide) ?_)
    rw [← hr1]
    exact ⟨rfl, hT2.up hh (j := 1) (by decide) (by decide) 5 (i + 1)⟩
  have K39 : ∀ (F S1 : q_F) (q d : Int) (L1 : List Int), cT h f F S1 T N q d L1 → S1 1 5 = i → (L1.length : Int) ≤ q → sRu3 T N S1 L1 q d = r → V D C m_ru_readRule 39 [vr D 4, vr D h, vi i] [] (Zg g h) F := by
    intro F S1 q d L1 hT1 h15 hL1 hr1
    unfold sRu3 at hr1
    rw [h15] at hr1
    have hl := hT1.1.2.2.1
    have hT2 := hT1.up67 hh (F' := F) (Or.inr rfl) (hT1.1.2.1.up7 hh i L1.length)
    have hp1 := hT1.1.1.pr
    have hrq := rq_ok (T := T) (N := N) (by omega) (mode := 8) (p := q) (e := d) (by decide) hp1.1 hp1.2.1
    have okt := (ru_all (D := D) (g := g) (h := h) (T := T) (N := N) 20000 20000 (Nat.le_refl _)).2.2.2.2.2 72 _ L1 0 q d _ (by decide) (by decide) hT2.1.1 hT2.1.2.2 hL1 hrq
    cases hw : rq T N 8 q d with
    | inl e0 =>
      rw [hw] at hr1
      refine V_aload_0 d_ru_readRule_39 ?_
      refine V_getR d_ru_readRule_40 fl_ru_18 is_ru r_ru_testStart ?_
      refine V_iload_2 d_ru_readRule_43 ?_
      refine V_aload_0 d_ru_readRule_44 ?_
      refine V_getI d_ru_readRule_45 fl_ru_33 is_ru ?_
      rw [hl]
      refine V_iast d_ru_readRule_48 is_ru_testStart (by omega) (by omega) ?_
      refine V_aload_0 d_ru_readRule_49 ?_
      refine V_iconst 0 d_ru_readRule_50 ?_
      refine V_cvI1 d_ru_readRule_51 (ml_ru_51 72) (mv_ru_readTest 72) (by decide) (Nat.le_of_ble_eq_true rfl) is_ru (okt) ?_
      rintro x F2 hx
      obtain ⟨rfl, hz⟩ := cR.il hT2 hx hw
      refine V_if_ne 59 d_ru_readRule_54 (by decide) (by omega) (fun c54 => by omega) (fun c54 => ?_)
      refine V_iconst 0 d_ru_readRule_57 ?_
      refine V_ireturn d_ru_readRule_58 (hR _ _ (by decide) ?_)
      rw [← hr1]; exact hz
    | inr s =>
      rw [hw] at hr1
      refine V_aload_0 d_ru_readRule_39 ?_
      refine V_getR d_ru_readRule_40 fl_ru_18 is_ru r_ru_testStart ?_
      refine V_iload_2 d_ru_readRule_43 ?_
      refine V_aload_0 d_ru_readRule_44 ?_
      refine V_getI d_ru_readRule_45 fl_ru_33 is_ru ?_
      rw [hl]
      refine V_iast d_ru_readRule_48 is_ru_testStart (by omega) (by omega) ?_
      refine V_aload_0 d_ru_readRule_49 ?_
      refine V_iconst 0 d_ru_readRule_50 ?_
      refine V_cvI1 d_ru_readRule_51 (ml_ru_51 72) (mv_ru_readTest 72) (by decide) (Nat.le_of_ble_eq_true rfl) is_ru (okt) ?_
      rintro x F2 hx
      obtain ⟨rfl, hT3⟩ := cR.in hh hT2 hx hw
      refine V_if_ne 59 d_ru_readRule_54 (by decide) (by omega) (fun c54 => ?_) (fun c54 => by omega)
      exact K59 F2 _ _ _ _ hT3 (by rw [q_up_at (by decide)]; exact h15) hr1
  have K25 : ∀ (F S1 : q_F) (q d : Int) (L1 : List Int), cT h f F S1 T N q d L1 → S1 1 5 = i → (L1.length : Int) ≤ q → sRu2 T N S1 L1 q d = r → V D C m_ru_readRule 25 [vr D 4, vr D h, vi i] [] (Zg g h) F := by
    intro F S1 q d L1 hT1 h15 hL1 hr1
    unfold sRu2 at hr1
    have hp1 := hT1.1.1.pr
    cases hw : l_word T N 14 q d with
    | inl e0 =>
      rw [hw] at hr1
      refine V_aload_0 d_ru_readRule_25 ?_
      refine V_getR d_ru_readRule_26 fl_ru_29 is_ru r_ru_tape ?_
      refine V_bipush 14 d_ru_readRule_29 (by decide) ?_
      refine V_cvI1 d_ru_readRule_31 ml_ru_46 mv_tp_takeWord (by decide) (Nat.le_of_ble_eq_true rfl) is_tp (ok_takeWord hT1.1.1 (by decide)) ?_
      rintro x F2 hx
      obtain ⟨rfl, hz⟩ := cO.ig hT1 hx hw
      refine V_if_ne 39 d_ru_readRule_34 (by decide) (by omega) (fun c34 => by omega) (fun c34 => ?_)
      refine V_iconst 0 d_ru_readRule_37 ?_
      refine V_ireturn d_ru_readRule_38 (hR _ _ (by decide) ?_)
      rw [← hr1]; exact hz
    | inr u =>
      rw [hw] at hr1
      have hge : q ≤ u.1 := by
        unfold l_word at hw
        split at hw
        · next hwd =>
          have := wd_ge (T := T) (N := N) (p := q) (e := d) hp1.2.1 (by omega)
          cases hw; show q ≤ sk T N (le T N q); omega
        · cases hw
      refine V_aload_0 d_ru_readRule_25 ?_
      refine V_getR d_ru_readRule_26 fl_ru_29 is_ru r_ru_tape ?_
      refine V_bipush 14 d_ru_readRule_29 (by decide) ?_
      refine V_cvI1 d_ru_readRule_31 ml_ru_46 mv_tp_takeWord (by decide) (Nat.le_of_ble_eq_true rfl) is_tp (ok_takeWord hT1.1.1 (by decide)) ?_
      rintro x F2 hx
      obtain ⟨rfl, hT2⟩ := cO.in hh hT1 hx hw
      refine V_if_ne 39 d_ru_readRule_34 (by decide) (by omega) (fun c34 => ?_) (fun c34 => by omega)
      exact K39 F2 S1 _ _ L1 hT2 h15 (by omega) hr1
  have hT1 := hT0.up67 hh (F' := f) (Or.inl rfl) (hC.2.1.up6 hh i L.length)
  have hrq := rq_ok (T := T) (N := N) (by omega) (mode := 3) (p := p) (e := e) (by decide) hp.1 hp.2.1
  have oks := (ru_all (D := D) (g := g) (h := h) (T := T) (N := N) 20000 20000 (Nat.le_refl _)).2.2.1 72 _ L 0 p e _ (by decide) (by decide) hT1.1.1 hT1.1.2.2 hL hrq
  cases hw : rq T N 3 p e with
  | inl e0 =>
    rw [hw] at hr
    refine V_aload_1 d_ru_readRule_0 ?_
    refine V_getR d_ru_readRule_1 fl_ru_37 (is_gd hh) (r_gd_counts hh) ?_
    refine V_iconst 5 d_ru_readRule_4 ?_
    refine V_iald d_ru_readRule_5 (is_gd_counts hh) (by omega) (by omega) ?_
    rw [hc1]
    refine V_istore_2 d_ru_readRule_6 rfl ?_
    refine V_aload_0 d_ru_readRule_7 ?_
    refine V_getR d_ru_readRule_8 fl_ru_15 is_ru r_ru_sumStart ?_
    refine V_iload_2 d_ru_readRule_11 ?_
    refine V_aload_0 d_ru_readRule_12 ?_
    refine V_getI d_ru_readRule_13 fl_ru_33 is_ru ?_
    rw [hlen]
    refine V_iast d_ru_readRule_16 is_ru_sumStart (by omega) (by omega) ?_
    refine V_aload_0 d_ru_readRule_17 ?_
    refine V_iconst 0 d_ru_readRule_18 ?_
    refine V_cvI1 d_ru_readRule_19 (ml_ru_42 72) (mv_ru_readSum 72) (by decide) (Nat.le_of_ble_eq_true rfl) is_ru (oks) ?_
    rintro x F2 hx
    obtain ⟨rfl, hz⟩ := cR.il hT1 hx hw
    refine V_if_eq 37 d_ru_readRule_22 (by decide) (by omega) (fun c22 => ?_) (fun c22 => by omega)
    refine V_iconst 0 d_ru_readRule_37 ?_
    refine V_ireturn d_ru_readRule_38 (hR _ _ (by decide) ?_)
    rw [← hr]; exact hz
  | inr s =>
    have hl3 := rd_len 20000 3 0 p e s.1 s.2.1 s.2.2 hp.2.1 (by rw [hrq, hw])
    rw [hw] at hr
    refine V_aload_1 d_ru_readRule_0 ?_
    refine V_getR d_ru_readRule_1 fl_ru_37 (is_gd hh) (r_gd_counts hh) ?_
    refine V_iconst 5 d_ru_readRule_4 ?_
    refine V_iald d_ru_readRule_5 (is_gd_counts hh) (by omega) (by omega) ?_
    rw [hc1]
    refine V_istore_2 d_ru_readRule_6 rfl ?_
    refine V_aload_0 d_ru_readRule_7 ?_
    refine V_getR d_ru_readRule_8 fl_ru_15 is_ru r_ru_sumStart ?_
    refine V_iload_2 d_ru_readRule_11 ?_
    refine V_aload_0 d_ru_readRule_12 ?_
    refine V_getI d_ru_readRule_13 fl_ru_33 is_ru ?_
    rw [hlen]
    refine V_iast d_ru_readRule_16 is_ru_sumStart (by omega) (by omega) ?_
    refine V_aload_0 d_ru_readRule_17 ?_
    refine V_iconst 0 d_ru_readRule_18 ?_
    refine V_cvI1 d_ru_readRule_19 (ml_ru_42 72) (mv_ru_readSum 72) (by decide) (Nat.le_of_ble_eq_true rfl) is_ru (oks) ?_
    rintro x F2 hx
    obtain ⟨rfl, hT2⟩ := cR.in hh hT1 hx hw
    refine V_if_eq 37 d_ru_readRule_22 (by decide) (by omega) (fun c22 => by omega) (fun c22 => ?_)
    exact K25 F2 _ _ _ _ hT2 (by rw [q_up_at (by decide)]; exact hi) (by rw [List.length_append]; push_cast; omega) hr
end STM7
