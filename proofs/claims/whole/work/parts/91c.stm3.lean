/-! the class reads statements: persons, shades, roads -/
def sPerson (S : q_F) (T : Int → Int) (N p e : Int) : q_R (q_F × Int × Int) := rb (sNew S T N 1 p e) (fun s => sFor T N (15 + S 1 1) 9 (s.1 1 0).toNat s.1 0 s.2.1 s.2.2)
def sShade6 (T : Int → Int) (N i : Int) (S : q_F) (p e : Int) : q_R (q_F × Int × Int) := sFor T N (30 + i) 1 (S 1 0).toNat S 0 p e
def sShade5 (T : Int → Int) (N i : Int) (S : q_F) (p e : Int) : q_R (q_F × Int × Int) := rb (l_word T N 4 p e) (fun u => sShade6 T N i S u.1 u.2)
def sShade4 (T : Int → Int) (N i : Int) (S : q_F) (p e : Int) : q_R (q_F × Int × Int) := rb (sFor T N (24 + i) 9 (S 1 0).toNat S 0 p e) (fun s => sShade5 T N i s.1 s.2.1 s.2.2)
def sShade3 (T : Int → Int) (N i : Int) (S : q_F) (p e : Int) : q_R (q_F × Int × Int) := rb (sNum S T N 35 i 1 99 p e) (fun s => sShade4 T N i s.1 s.2.1 s.2.2)
def sShade2 (T : Int → Int) (N i : Int) (S : q_F) (p e : Int) : q_R (q_F × Int × Int) := rb (l_word T N 3 p e) (fun u => sShade3 T N i S u.1 u.2)
def sShade (S : q_F) (T : Int → Int) (N p e : Int) : q_R (q_F × Int × Int) := rb (sNew S T N 2 p e) (fun s => sShade2 T N (S 1 2) s.1 s.2.1 s.2.2)
def addR (S : q_F) (a b v : Int) : q_F := q_up (q_up (q_up S (37 + a) b (min v (S (37 + a) b))) (37 + b) a (min v (S (37 + a) b))) 1 6 (S 1 6 + 1)
def sRoad3 (S : q_F) (T : Int → Int) (N a b p e : Int) : q_R (q_F × Int × Int) := rb (l_num T N 1 9 p e) (fun s => .inr (addR S a b s.1, s.2.1, s.2.2))
def sRoad (S : q_F) (T : Int → Int) (N p e : Int) : q_R (q_F × Int × Int) := rb (sOld S T N 3 p e) (fun s => rb (sOld S T N 3 s.2.1 s.2.2) (fun u => if s.1 = u.1 then .inl (3, s.2.1) else sRoad3 S T N s.1 u.1 u.2.1 u.2.2))
section STM3
variable {D : q_D} {f f' S : q_F} {A : q_As} {g h : Int} {T : Int → Int} {N p e : Int}
/-- a step's state, from f on -/
def cT (h : Int) (f F S : q_F) (T : Int → Int) (N p e : Int) (L : List Int) : Prop := cM h F S T N p e L ∧ F 1 3 = f 1 3 ∧ F 1 4 = f 1 4 ∧ sK h f F
theorem cT.refl {L : List Int} (hC : cM h f S T N p e L) : cT h f f S T N p e L := ⟨hC, rfl, rfl, sK.refl f⟩
theorem cS.in {F F' : q_F} {x : Int} {L : List Int} {q d : Int} {r : q_R (q_F × Int × Int)} {s : q_F × Int × Int} (hT : cT h f F S T N q d L) (hx : cS h F F' T N x L r) (hr : r = .inr s) : x = 1 ∧ cT h f F' s.1 T N s.2.1 s.2.2 L := by
  subst hr
  obtain ⟨a1, a2, a3, a4, a5, a6, a7⟩ := hx
  exact ⟨a1, ⟨a2, a3, a4⟩, by rw [a5, hT.2.1], by rw [a6, hT.2.2.1], hT.2.2.2.tr a7⟩
theorem cS.il {F F' : q_F} {x : Int} {L : List Int} {q d : Int} {r : q_R (q_F × Int × Int)} {e0 : Int × Int} (hT : cT h f F S T N q d L) (hx : cS h F F' T N x L r) (hr : r = .inl e0) : x = 0 ∧ cS h f F' T N 0 L (.inl e0) := by
  subst hr
  obtain ⟨a1, a2, a3, a4⟩ := hx
  exact ⟨a1, rfl, a2, a3, hT.2.2.2.tr a4⟩
theorem cT.fin {F : q_F} {L : List Int} (hT : cT h f F S T N p e L) : cS h f F T N 1 L (.inr (S, p, e)) := ⟨rfl, hT.1.1, hT.1.2.1, hT.1.2.2, hT.2.1, hT.2.2.1, hT.2.2.2⟩
theorem cO.in (hh : q_G h) {F F' : q_F} {x : Int} {L : List Int} {q d : Int} {r : q_R (Int × Int)} {s : Int × Int} (hT : cT h f F S T N q d L) (hx : cO F F' T N x r) (hr : r = .inr s) : x = 1 ∧ cT h f F' S T N s.1 s.2 L := by
  subst hr
  obtain ⟨a1, a2, a3, a4, a5⟩ := hx
  exact ⟨a1, hT.1.ck hh a5 a2, by rw [a3, hT.2.1], by rw [a4, hT.2.2.1], hT.2.2.2.tr a5.s⟩
theorem cO.il {F F' : q_F} {x : Int} {L : List Int} {q d : Int} {r : q_R (Int × Int)} {e0 : Int × Int} (hT : cT h f F S T N q d L) (hx : cO F F' T N x r) (hr : r = .inl e0) : x = 0 ∧ cS h f F' T N 0 L (.inl e0) := by
  subst hr
  obtain ⟨a1, a2, a3, a4⟩ := hx
  exact ⟨a1, rfl, a2, a3, hT.2.2.2.tr a4.s⟩
theorem cV.in (hh : q_G h) {F F' : q_F} {x q d : Int} {L : List Int} {r : q_R (Int × Int × Int)} {s : Int × Int × Int} (hT : cT h f F S T N q d L) (hx : cV F F' T N q x r) (hr : r = .inr s) : x = 1 ∧ cT h f F' S T N s.2.1 s.2.2 L ∧ F' 1 6 = s.1 ∧ F' 1 5 = q := by
  subst hr
  obtain ⟨a1, a2, a6, a7, a3, a4, a5⟩ := hx
  exact ⟨a1, ⟨hT.1.ck hh a5 a2, by rw [a3, hT.2.1], by rw [a4, hT.2.2.1], hT.2.2.2.tr a5.s⟩, a6, a7⟩
theorem cV.il {F F' : q_F} {x q d : Int} {L : List Int} {r : q_R (Int × Int × Int)} {e0 : Int × Int} (hT : cT h f F S T N q d L) (hx : cV F F' T N q x r) (hr : r = .inl e0) : x = 0 ∧ cS h f F' T N 0 L (.inl e0) := by
  subst hr
  obtain ⟨a1, a2, a3, a4⟩ := hx
  exact ⟨a1, rfl, a2, a3, hT.2.2.2.tr a4.s⟩
theorem sNum_1 {S S' : q_F} {j k lo hi p e q d : Int} (hj : ¬ j = 1) (hs : sNum S T N j k lo hi p e = .inr (S', q, d)) : ∀ i, S' 1 i = S 1 i := by
  unfold sNum at hs
  cases hl : l_num T N lo hi p e with
  | inl e0 => rw [hl] at hs; cases hs
  | inr u => rw [hl] at hs; cases hs; intro i; show q_up S j k u.1 1 i = _; rw [q_up_at (fun e => hj e.symm)]
theorem sFor_1 {j hi : Int} (hj : ¬ j = 1) : ∀ (m : Nat) (S S' : q_F) (k p e q d : Int), sFor T N j hi m S k p e = .inr (S', q, d) → ∀ i, S' 1 i = S 1 i := by
  intro m
  induction m with
  | zero => intro S S' k p e q d h i; cases h; rfl
  | succ m ih =>
    intro S S' k p e q d h i
    have h : rb (sNum S T N j k 0 hi p e) (fun s => sFor T N j hi m s.1 (k + 1) s.2.1 s.2.2) = .inr (S', q, d) := h
    cases hn : sNum S T N j k 0 hi p e with
    | inl e0 => rw [hn] at h; cases h
    | inr s =>
      obtain ⟨S1, q1, d1⟩ := s
      rw [hn] at h
      rw [ih S1 S' _ _ _ _ _ h i, sNum_1 hj hn i]
theorem sNew_1 {k : Int} {S' : q_F} {q d : Int} (hk : ¬ k = 0) (hk2 : ¬ (3 + k) = 1) (hs : sNew S T N k p e = .inr (S', q, d)) : S' 1 0 = S 1 0 := by
  unfold sNew at hs
  cases hl : l_name T N p e with
  | inl e0 => rw [hl] at hs; cases hs
  | inr u =>
    rw [hl] at hs
    have hs : (if gvn S (pk32 u.1) then (.inl (3, p) : q_R (q_F × Int × Int)) else .inr (addN S k (pk32 u.1), u.2.1, u.2.2)) = .inr (S', q, d) := hs
    split at hs
    · cases hs
    · cases hs; unfold addN; rw [q_up_ne (by omega), q_up_at (fun e => hk2 e.symm)]
theorem ok_readPerson (hh : q_G h) {L : List Int} (hC : cM h f S T N p e L) (hW : pW S) (hroom : S 1 1 < 8) : OkI D m_gr_readPerson [vr D 3] (Zg g h) f (fun x f' => cS h f f' T N x L (sPerson S T N p e)) := by
  have hg2 := q_G51 hh
  have hc1 := hC.2.1.1 1 1 (by decide) (by decide)
  have hT0 := cT.refl hC
  have hi1 := hW.2.1
  unfold sPerson
  refine OkB_of (L0 := [vr D 3, vu]) mi_gr_readPerson rfl rfl (Nat.le_of_ble_eq_true rfl) (fun C hR => ?_)
  have okn := ok_readNewName (D := D) (g := g) hh hC hW (k := 1) (by decide) hroom
  cases h1 : sNew S T N 1 p e with
  | inl e0 =>
    refine V_aload_0 d_gr_readPerson_0 ?_
    refine V_getR d_gr_readPerson_1 fl_gr_24 is_gr (r_gr_into hh) ?_
    refine V_getR d_gr_readPerson_4 fl_gr_121 (is_gd hh) (r_gd_counts hh) ?_
    refine V_iconst 1 d_gr_readPerson_7 ?_
    refine V_iald d_gr_readPerson_8 (is_gd_counts hh) (by omega) (by omega) ?_
    rw [hc1]
    refine V_istore_1 d_gr_readPerson_9 rfl ?_
    refine V_aload_0 d_gr_readPerson_10 ?_
    refine V_iconst 1 d_gr_readPerson_11 ?_
    refine V_cvI1 d_gr_readPerson_12 ml_gr_91 mv_gr_readNewName (by decide) (Nat.le_of_ble_eq_true rfl) is_gr (okn) ?_
    rintro x F hx
    obtain ⟨rfl, hz⟩ := cS.il hT0 hx h1
    refine V_if_eq 40 d_gr_readPerson_15 (by decide) (by omega) (fun c15 => ?_) (fun c15 => by omega)
    refine V_iconst 0 d_gr_readPerson_40 ?_
    refine V_ireturn d_gr_readPerson_41 (hR _ _ (by decide) ?_)
    rw [h1]; exact hz
  | inr s =>
    obtain ⟨S1, q1, d1⟩ := s
    have e10 := sNew_1 (by decide) (by decide) h1
    cases h2 : sFor T N (15 + S 1 1) 9 (S1 1 0).toNat S1 0 q1 d1 with
    | inl e0 =>
      refine V_aload_0 d_gr_readPerson_0 ?_
      refine V_getR d_gr_readPerson_1 fl_gr_24 is_gr (r_gr_into hh) ?_
      refine V_getR d_gr_readPerson_4 fl_gr_121 (is_gd hh) (r_gd_counts hh) ?_
      refine V_iconst 1 d_gr_readPerson_7 ?_
      refine V_iald d_gr_readPerson_8 (is_gd_counts hh) (by omega) (by omega) ?_
      rw [hc1]
      refine V_istore_1 d_gr_readPerson_9 rfl ?_
      refine V_aload_0 d_gr_readPerson_10 ?_
      refine V_iconst 1 d_gr_readPerson_11 ?_
      refine V_cvI1 d_gr_readPerson_12 ml_gr_91 mv_gr_readNewName (by decide) (Nat.le_of_ble_eq_true rfl) is_gr (okn) ?_
      rintro x F hx
      obtain ⟨rfl, hT1⟩ := cS.in hT0 hx h1
      refine V_if_eq 40 d_gr_readPerson_15 (by decide) (by omega) (fun c15 => by omega) (fun c15 => ?_)
      refine V_aload_0 d_gr_readPerson_18 ?_
      refine V_aload_0 d_gr_readPerson_19 ?_
      refine V_getR d_gr_readPerson_20 fl_gr_24 is_gr (r_gr_into hh) ?_
      refine V_getR d_gr_readPerson_23 fl_gr_125 (is_gd hh) (r_gd_looks hh) ?_
      refine V_iload_1 d_gr_readPerson_26 ?_
      refine V_aald d_gr_readPerson_27 (is_gd_looks hh) (by omega) (by omega) (r_gd_looksrow hh (by omega)) ?_
      rw [show h + 15 + S 1 1 = h + (15 + S 1 1) by omega]
      refine V_bipush 9 d_gr_readPerson_28 (by decide) ?_
      refine V_cvI2 d_gr_readPerson_30 ml_gr_128 mv_gr_readForTraits (by decide) (Nat.le_of_ble_eq_true rfl) is_gr (ok_readForTraits hh hT1.1 (by show 0 ≤ S1 1 0 ∧ S1 1 0 ≤ 6; rw [e10]; exact hW.1) (by have := hW.2.1; omega) (by rw [show h + (15 + S 1 1) = h + 15 + S 1 1 by omega]; exact is_gd_looks_row hh (by have := hW.2.1; omega)) (by decide)) ?_
      rintro x2 F2 hx2
      obtain ⟨rfl, hz2⟩ := cS.il hT1 hx2 h2
      refine V_if_eq 40 d_gr_readPerson_33 (by decide) (by omega) (fun c33 => ?_) (fun c33 => by omega)
      refine V_iconst 0 d_gr_readPerson_40 ?_
      refine V_ireturn d_gr_readPerson_41 (hR _ _ (by decide) ?_)
      rw [h1]; show cS h f F2 T N 0 L (sFor T N (15 + S 1 1) 9 (S1 1 0).toNat S1 0 q1 d1); rw [h2]; exact hz2
    | inr s2 =>
      refine V_aload_0 d_gr_readPerson_0 ?_
      refine V_getR d_gr_readPerson_1 fl_gr_24 is_gr (r_gr_into hh) ?_
      refine V_getR d_gr_readPerson_4 fl_gr_121 (is_gd hh) (r_gd_counts hh) ?_
      refine V_iconst 1 d_gr_readPerson_7 ?_
      refine V_iald d_gr_readPerson_8 (is_gd_counts hh) (by omega) (by omega) ?_
      rw [hc1]
      refine V_istore_1 d_gr_readPerson_9 rfl ?_
      refine V_aload_0 d_gr_readPerson_10 ?_
      refine V_iconst 1 d_gr_readPerson_11 ?_
      refine V_cvI1 d_gr_readPerson_12 ml_gr_91 mv_gr_readNewName (by decide) (Nat.le_of_ble_eq_true rfl) is_gr (okn) ?_
      rintro x F hx
      obtain ⟨rfl, hT1⟩ := cS.in hT0 hx h1
      refine V_if_eq 40 d_gr_readPerson_15 (by decide) (by omega) (fun c15 => by omega) (fun c15 => ?_)
      refine V_aload_0 d_gr_readPerson_18 ?_
      refine V_aload_0 d_gr_readPerson_19 ?_
      refine V_getR d_gr_readPerson_20 fl_gr_24 is_gr (r_gr_into hh) ?_
      refine V_getR d_gr_readPerson_23 fl_gr_125 (is_gd hh) (r_gd_looks hh) ?_
      refine V_iload_1 d_gr_readPerson_26 ?_
      refine V_aald d_gr_readPerson_27 (is_gd_looks hh) (by omega) (by omega) (r_gd_looksrow hh (by omega)) ?_
      rw [show h + 15 + S 1 1 = h + (15 + S 1 1) by omega]
      refine V_bipush 9 d_gr_readPerson_28 (by decide) ?_
      refine V_cvI2 d_gr_readPerson_30 ml_gr_128 mv_gr_readForTraits (by decide) (Nat.le_of_ble_eq_true rfl) is_gr (ok_readForTraits hh hT1.1 (by show 0 ≤ S1 1 0 ∧ S1 1 0 ≤ 6; rw [e10]; exact hW.1) (by have := hW.2.1; omega) (by rw [show h + (15 + S 1 1) = h + 15 + S 1 1 by omega]; exact is_gd_looks_row hh (by have := hW.2.1; omega)) (by decide)) ?_
      rintro x2 F2 hx2
      obtain ⟨rfl, hT2⟩ := cS.in hT1 hx2 h2
      refine V_if_eq 40 d_gr_readPerson_33 (by decide) (by omega) (fun c33 => by omega) (fun c33 => ?_)
      refine V_iconst 1 d_gr_readPerson_36 ?_
      refine V_goto 41 d_gr_readPerson_37 (by decide) ?_
      refine V_ireturn d_gr_readPerson_41 (hR _ _ (by decide) ?_)
      rw [h1]; show cS h f F2 T N 1 L (sFor T N (15 + S 1 1) 9 (S1 1 0).toNat S1 0 q1 d1); rw [h2]; exact hT2.fin
theorem ok_readShade (hh : q_G h) {L : List Int} (hC : cM h f S T N p e L) (hW : pW S) (hroom : S 1 2 < 5) : OkI D m_gr_readShade [vr D 3] (Zg g h) f (fun x f' => cS h f f' T N x L (sShade S T N p e)) := by
  have hg2 := q_G51 hh
  have hc1 := hC.2.1.1 1 2 (by decide) (by decide)
  have hT0 := cT.refl hC
  have hi : 0 ≤ S 1 2 ∧ S 1 2 < 5 := by have := hW.2.2.1; omega
  refine OkB_of (L0 := [vr D 3, vu]) mi_gr_readShade rfl rfl (Nat.le_of_ble_eq_true rfl) (fun C hR => ?_)
  generalize hi2 : S 1 2 = i at *
  generalize hr : sShade S T N p e = r at *
  have KF : ∀ (F : q_F) (u : Value), cS h f F T N 0 L r → V D C m_gr_readShade 97 [vr D 3, u] [] (Zg g h) F := by
    intro F u hx
    refine V_iconst 0 d_gr_readShade_97 ?_
    refine V_ireturn d_gr_readShade_98 (hR _ _ (by decide) ?_)
    exact hx
  have K76 : ∀ (F S1 : q_F) (q d : Int), cT h f F S1 T N q d L → (0 ≤ S1 1 0 ∧ S1 1 0 ≤ 6) → sShade6 T N i S1 q d = r → V D C m_gr_readShade 76 [vr D 3, vi i] [] (Zg g h) F := by
    intro F S1 q d hT1 h10 hr1
    unfold sShade6 at hr1
    have okf := ok_readForTraits (D := D) (g := g) hh hT1.1 h10 (j := 30 + i) (hi := 1) (by omega) (by rw [show h + (30 + i) = h + 30 + i by omega]; exact is_gd_fakes_row hh (by omega)) (by decide)
    rw [hr1] at okf
    cases r with
    | inl e0 =>
      refine V_aload_0 d_gr_readShade_76 ?_
      refine V_aload_0 d_gr_readShade_77 ?_
      refine V_getR d_gr_readShade_78 fl_gr_24 is_gr (r_gr_into hh) ?_
      refine V_getR d_gr_readShade_81 fl_gr_143 (is_gd hh) (r_gd_fakes hh) ?_
      refine V_iload_1 d_gr_readShade_84 ?_
      refine V_aald d_gr_readShade_85 (is_gd_fakes hh) (by omega) (by omega) (r_gd_fakesrow hh (by omega)) ?_
      rw [show h + 30 + i = h + (30 + i) by omega]
      refine V_iconst 1 d_gr_readShade_86 ?_
      refine V_cvI2 d_gr_readShade_87 ml_gr_128 mv_gr_readForTraits (by decide) (Nat.le_of_ble_eq_true rfl) is_gr (okf) ?_
      rintro x2 F2 hx2
      obtain ⟨rfl, hz2⟩ := cS.il hT1 hx2 rfl
      refine V_if_eq 97 d_gr_readShade_90 (by decide) (by omega) (fun c90 => ?_) (fun c90 => by omega)
      refine V_iconst 0 d_gr_readShade_97 ?_
      refine V_ireturn d_gr_readShade_98 (hR _ _ (by decide) ?_)
      exact hz2
    | inr s =>
      refine V_aload_0 d_gr_readShade_76 ?_
      refine V_aload_0 d_gr_readShade_77 ?_
      refine V_getR d_gr_readShade_78 fl_gr_24 is_gr (r_gr_into hh) ?_
      refine V_getR d_gr_readShade_81 fl_gr_143 (is_gd hh) (r_gd_fakes hh) ?_
      refine V_iload_1 d_gr_readShade_84 ?_
      refine V_aald d_gr_readShade_85 (is_gd_fakes hh) (by omega) (by omega) (r_gd_fakesrow hh (by omega)) ?_
      rw [show h + 30 + i = h + (30 + i) by omega]
      refine V_iconst 1 d_gr_readShade_86 ?_
      refine V_cvI2 d_gr_readShade_87 ml_gr_128 mv_gr_readForTraits (by decide) (Nat.le_of_ble_eq_true rfl) is_gr (okf) ?_
      rintro x2 F2 hx2
      obtain ⟨rfl, hT2⟩ := cS.in hT1 hx2 rfl
      refine V_if_eq 97 d_gr_readShade_90 (by decide) (by omega) (fun c90 => by omega) (fun c90 => ?_)
      refine V_iconst 1 d_gr_readShade_93 ?_
      refine V_goto 98 d_gr_readShade_94 (by decide) ?_
      refine V_ireturn d_gr_readShade_98 (hR _ _ (by decide) ?_)
      exact hT2.fin
  have K65 : ∀ (F S1 : q_F) (q d : Int), cT h f F S1 T N q d L → (0 ≤ S1 1 0 ∧ S1 1 0 ≤ 6) → sShade5 T N i S1 q d = r → V D C m_gr_readShade 65 [vr D 3, vi i] [] (Zg g h) F := by
    intro F S1 q d hT1 h10 hr1
    unfold sShade5 at hr1
    cases hw : l_word T N 4 q d with
    | inl e0 =>
      rw [hw] at hr1
      refine V_aload_0 d_gr_readShade_65 ?_
      refine V_getR d_gr_readShade_66 fl_gr_9 is_gr r_gr_tape ?_
      refine V_iconst 4 d_gr_readShade_69 ?_
      refine V_cvI1 d_gr_readShade_70 ml_gr_134 mv_tp_takeWord (by decide) (Nat.le_of_ble_eq_true rfl) is_tp (ok_takeWord hT1.1.1 (by decide)) ?_
      rintro x2 F2 hx2
      obtain ⟨rfl, hz2⟩ := cO.il hT1 hx2 hw
      refine V_if_eq 97 d_gr_readShade_73 (by decide) (by omega) (fun c73 => ?_) (fun c73 => by omega)
      exact KF F2 _ (by rw [← hr1]; exact hz2)
    | inr s =>
      rw [hw] at hr1
      refine V_aload_0 d_gr_readShade_65 ?_
      refine V_getR d_gr_readShade_66 fl_gr_9 is_gr r_gr_tape ?_
      refine V_iconst 4 d_gr_readShade_69 ?_
      refine V_cvI1 d_gr_readShade_70 ml_gr_134 mv_tp_takeWord (by decide) (Nat.le_of_ble_eq_true rfl) is_tp (ok_takeWord hT1.1.1 (by decide)) ?_
      rintro x2 F2 hx2
      obtain ⟨rfl, hT2⟩ := cO.in hh hT1 hx2 hw
      refine V_if_eq 97 d_gr_readShade_73 (by decide) (by omega) (fun c73 => by omega) (fun c73 => ?_)
      exact K76 F2 S1 _ _ hT2 h10 hr1
  have K47 : ∀ (F S1 : q_F) (q d : Int), cT h f F S1 T N q d L → (0 ≤ S1 1 0 ∧ S1 1 0 ≤ 6) → sShade4 T N i S1 q d = r → V D C m_gr_readShade 47 [vr D 3, vi i] [] (Zg g h) F := by
    intro F S1 q d hT1 h10 hr1
    unfold sShade4 at hr1
    have okf := ok_readForTraits (D := D) (g := g) hh hT1.1 h10 (j := 24 + i) (hi := 9) (by omega) (by rw [show h + (24 + i) = h + 24 + i by omega]; exact is_gd_owns_row hh (by omega)) (by decide)
    cases hw : sFor T N (24 + i) 9 (S1 1 0).toNat S1 0 q d with
    | inl e0 =>
      rw [hw] at hr1
      refine V_aload_0 d_gr_readShade_47 ?_
      refine V_aload_0 d_gr_readShade_48 ?_
      refine V_getR d_gr_readShade_49 fl_gr_24 is_gr (r_gr_into hh) ?_
      refine V_getR d_gr_readShade_52 fl_gr_140 (is_gd hh) (r_gd_owns hh) ?_
      refine V_iload_1 d_gr_readShade_55 ?_
      refine V_aald d_gr_readShade_56 (is_gd_owns hh) (by omega) (by omega) (r_gd_ownsrow hh (by omega)) ?_
      rw [show h + 24 + i = h + (24 + i) by omega]
      refine V_bipush 9 d_gr_readShade_57 (by decide) ?_
      refine V_cvI2 d_gr_readShade_59 ml_gr_128 mv_gr_readForTraits (by decide) (Nat.le_of_ble_eq_true rfl) is_gr (okf) ?_
      rintro x2 F2 hx2
      obtain ⟨rfl, hz2⟩ := cS.il hT1 hx2 hw
      refine V_if_eq 97 d_gr_readShade_62 (by decide) (by omega) (fun c62 => ?_) (fun c62 => by omega)
      exact KF F2 _ (by rw [← hr1]; exact hz2)
    | inr s =>
      obtain ⟨S2, q2, d2⟩ := s
      rw [hw] at hr1
      have e1 := sFor_1 (by omega) _ _ _ _ _ _ _ _ hw 0
      refine V_aload_0 d_gr_readShade_47 ?_
      refine V_aload_0 d_gr_readShade_48 ?_
      refine V_getR d_gr_readShade_49 fl_gr_24 is_gr (r_gr_into hh) ?_
      refine V_getR d_gr_readShade_52 fl_gr_140 (is_gd hh) (r_gd_owns hh) ?_
      refine V_iload_1 d_gr_readShade_55 ?_
      refine V_aald d_gr_readShade_56 (is_gd_owns hh) (by omega) (by omega) (r_gd_ownsrow hh (by omega)) ?_
      rw [show h + 24 + i = h + (24 + i) by omega]
      refine V_bipush 9 d_gr_readShade_57 (by decide) ?_
      refine V_cvI2 d_gr_readShade_59 ml_gr_128 mv_gr_readForTraits (by decide) (Nat.le_of_ble_eq_true rfl) is_gr (okf) ?_
      rintro x2 F2 hx2
      obtain ⟨rfl, hT2⟩ := cS.in hT1 hx2 hw
      refine V_if_eq 97 d_gr_readShade_62 (by decide) (by omega) (fun c62 => by omega) (fun c62 => ?_)
      exact K65 F2 S2 _ _ hT2 (by rw [e1]; exact h10) hr1
  have K29 : ∀ (F S1 : q_F) (q d : Int), cT h f F S1 T N q d L → (0 ≤ S1 1 0 ∧ S1 1 0 ≤ 6) → sShade3 T N i S1 q d = r → V D C m_gr_readShade 29 [vr D 3, vi i] [] (Zg g h) F := by
    intro F S1 q d hT1 h10 hr1
    unfold sShade3 at hr1
    have okf := ok_readNumber (D := D) (g := g) hh hT1.1 (j := 35) (k := i) (lo := 1) (hi := 99) (n := 5) (by decide) (is_gd_fees hh) (by omega) (by decide) (by decide) (by decide)
    cases hw : sNum S1 T N 35 i 1 99 q d with
    | inl e0 =>
      rw [hw] at hr1
      refine V_aload_0 d_gr_readShade_29 ?_
      refine V_aload_0 d_gr_readShade_30 ?_
      refine V_getR d_gr_readShade_31 fl_gr_24 is_gr (r_gr_into hh) ?_
      refine V_getR d_gr_readShade_34 fl_gr_137 (is_gd hh) (r_gd_fees hh) ?_
      refine V_iload_1 d_gr_readShade_37 ?_
      refine V_iconst 1 d_gr_readShade_38 ?_
      refine V_bipush 99 d_gr_readShade_39 (by decide) ?_
      refine V_cvI4 d_gr_readShade_41 ml_gr_114 mv_gr_readNumber (by decide) (Nat.le_of_ble_eq_true rfl) is_gr (okf) ?_
      rintro x2 F2 hx2
      obtain ⟨rfl, hz2⟩ := cS.il hT1 hx2 hw
      refine V_if_eq 97 d_gr_readShade_44 (by decide) (by omega) (fun c44 => ?_) (fun c44 => by omega)
      exact KF F2 _ (by rw [← hr1]; exact hz2)
    | inr s =>
      obtain ⟨S2, q2, d2⟩ := s
      rw [hw] at hr1
      have e1 := sNum_1 (by decide) hw 0
      refine V_aload_0 d_gr_readShade_29 ?_
      refine V_aload_0 d_gr_readShade_30 ?_
      refine V_getR d_gr_readShade_31 fl_gr_24 is_gr (r_gr_into hh) ?_
      refine V_getR d_gr_readShade_34 fl_gr_137 (is_gd hh) (r_gd_fees hh) ?_
      refine V_iload_1 d_gr_readShade_37 ?_
      refine V_iconst 1 d_gr_readShade_38 ?_
      refine V_bipush 99 d_gr_readShade_39 (by decide) ?_
      refine V_cvI4 d_gr_readShade_41 ml_gr_114 mv_gr_readNumber (by decide) (Nat.le_of_ble_eq_true rfl) is_gr (okf) ?_
      rintro x2 F2 hx2
      obtain ⟨rfl, hT2⟩ := cS.in hT1 hx2 hw
      refine V_if_eq 97 d_gr_readShade_44 (by decide) (by omega) (fun c44 => by omega) (fun c44 => ?_)
      exact K47 F2 S2 _ _ hT2 (by rw [e1]; exact h10) hr1
  have K18 : ∀ (F S1 : q_F) (q d : Int), cT h f F S1 T N q d L → (0 ≤ S1 1 0 ∧ S1 1 0 ≤ 6) → sShade2 T N i S1 q d = r → V D C m_gr_readShade 18 [vr D 3, vi i] [] (Zg g h) F := by
    intro F S1 q d hT1 h10 hr1
    unfold sShade2 at hr1
    cases hw : l_word T N 3 q d with
    | inl e0 =>
      rw [hw] at hr1
      refine V_aload_0 d_gr_readShade_18 ?_
      refine V_getR d_gr_readShade_19 fl_gr_9 is_gr r_gr_tape ?_
      refine V_iconst 3 d_gr_readShade_22 ?_
      refine V_cvI1 d_gr_readShade_23 ml_gr_134 mv_tp_takeWord (by decide) (Nat.le_of_ble_eq_true rfl) is_tp (ok_takeWord hT1.1.1 (by decide)) ?_
      rintro x2 F2 hx2
      obtain ⟨rfl, hz2⟩ := cO.il hT1 hx2 hw
      refine V_if_eq 97 d_gr_readShade_26 (by decide) (by omega) (fun c26 => ?_) (fun c26 => by omega)
      exact KF F2 _ (by rw [← hr1]; exact hz2)
    | inr s =>
      rw [hw] at hr1
      refine V_aload_0 d_gr_readShade_18 ?_
      refine V_getR d_gr_readShade_19 fl_gr_9 is_gr r_gr_tape ?_
      refine V_iconst 3 d_gr_readShade_22 ?_
      refine V_cvI1 d_gr_readShade_23 ml_gr_134 mv_tp_takeWord (by decide) (Nat.le_of_ble_eq_true rfl) is_tp (ok_takeWord hT1.1.1 (by decide)) ?_
      rintro x2 F2 hx2
      obtain ⟨rfl, hT2⟩ := cO.in hh hT1 hx2 hw
      refine V_if_eq 97 d_gr_readShade_26 (by decide) (by omega) (fun c26 => by omega) (fun c26 => ?_)
      exact K29 F2 S1 _ _ hT2 h10 hr1
  unfold sShade at hr
  have okn := ok_readNewName (D := D) (g := g) hh hC hW (k := 2) (by decide) (by rw [hi2]; exact hi.2)
  cases h1 : sNew S T N 2 p e with
  | inl e0 =>
    rw [h1] at hr
    refine V_aload_0 d_gr_readShade_0 ?_
    refine V_getR d_gr_readShade_1 fl_gr_24 is_gr (r_gr_into hh) ?_
    refine V_getR d_gr_readShade_4 fl_gr_121 (is_gd hh) (r_gd_counts hh) ?_
    refine V_iconst 2 d_gr_readShade_7 ?_
    refine V_iald d_gr_readShade_8 (is_gd_counts hh) (by omega) (by omega) ?_
    rw [hc1]
    refine V_istore_1 d_gr_readShade_9 rfl ?_
    refine V_aload_0 d_gr_readShade_10 ?_
    refine V_iconst 2 d_gr_readShade_11 ?_
    refine V_cvI1 d_gr_readShade_12 ml_gr_91 mv_gr_readNewName (by decide) (Nat.le_of_ble_eq_true rfl) is_gr (okn) ?_
    rintro x F hx
    obtain ⟨rfl, hz⟩ := cS.il hT0 hx h1
    refine V_if_eq 97 d_gr_readShade_15 (by decide) (by omega) (fun c15 => ?_) (fun c15 => by omega)
    exact KF F _ (by rw [← hr]; exact hz)
  | inr s =>
    obtain ⟨S1, q1, d1⟩ := s
    have e10 := sNew_1 (by decide) (by decide) h1
    rw [h1] at hr
    rw [hi2] at hr
    refine V_aload_0 d_gr_readShade_0 ?_
    refine V_getR d_gr_readShade_1 fl_gr_24 is_gr (r_gr_into hh) ?_
    refine V_getR d_gr_readShade_4 fl_gr_121 (is_gd hh) (r_gd_counts hh) ?_
    refine V_iconst 2 d_gr_readShade_7 ?_
    refine V_iald d_gr_readShade_8 (is_gd_counts hh) (by omega) (by omega) ?_
    rw [hc1]
    refine V_istore_1 d_gr_readShade_9 rfl ?_
    refine V_aload_0 d_gr_readShade_10 ?_
    refine V_iconst 2 d_gr_readShade_11 ?_
    refine V_cvI1 d_gr_readShade_12 ml_gr_91 mv_gr_readNewName (by decide) (Nat.le_of_ble_eq_true rfl) is_gr (okn) ?_
    rintro x F hx
    obtain ⟨rfl, hT1⟩ := cS.in hT0 hx h1
    refine V_if_eq 97 d_gr_readShade_15 (by decide) (by omega) (fun c15 => by omega) (fun c15 => ?_)
    exact K18 F S1 _ _ hT1 (by rw [e10]; exact hW.1) hr
theorem ok_addRoad (hh : q_G h) (hE : cE h f S) (hW : pW S) {a b v : Int} (ha : 0 ≤ a ∧ a < 8) (hb : 0 ≤ b ∧ b < 8) (hab : ¬ a = b) (hv : 0 ≤ v ∧ v ≤ 9) (h6 : S 1 6 < 20) : OkV D m_gd_addRoad [vr D h, vi a, vi b, vi v] (Zg g h) f (fun f' => cE h f' (addR S a b v) ∧ sK h f f' ∧ ∀ j i, j = 1 ∨ j = 2 ∨ j = 4 ∨ j = 5 → f' j i = f j i) := by
  have hg2 := q_G51 hh
  have hc := hE.1 1 6 (by decide) (by decide)
  have hab2 := hE.1 (37 + a) b (by omega) (by omega)
  have hrg := hW.2.2.2.2.2.2.2.2 a b ha.1 ha.2 hb.1 hb.2
  have h60 := hW.2.2.2.2.2.2.1
  refine OkV_of (L0 := [vr D h, vi a, vi b, vi v, vu]) mi_gd_addRoad rfl rfl (Nat.le_of_ble_eq_true rfl) (fun C hR => ?_)
  refine V_iload_3 d_gd_addRoad_0 ?_
  refine V_aload_0 d_gd_addRoad_1 ?_
  refine V_getR d_gd_addRoad_2 fl_gd_35 (is_gd hh) (r_gd_hours hh) ?_
  refine V_iload_1 d_gd_addRoad_5 ?_
  refine V_aald d_gd_addRoad_6 (is_gd_hours hh) (by omega) (by omega) (r_gd_hoursrow hh (by omega)) ?_
  refine V_iload_2 d_gd_addRoad_7 ?_
  refine V_iald d_gd_addRoad_8 (is_gd_hours_row hh (by omega)) (by omega) (by omega) ?_
  rw [show h + 37 + a = h + (37 + a) by omega, hab2]
  refine V_csI2 d_gd_addRoad_9 ml_gd_71 ms_jm_min (by decide) (Nat.le_of_ble_eq_true rfl) (ok_min (by omega) (by omega)) ?_
  rintro _ f2 ⟨rfl, e2⟩
  rw [e2]; clear e2 f2
  refine V_istore_4 d_gd_addRoad_12 rfl ?_
  refine V_aload_0 d_gd_addRoad_14 ?_
  refine V_getR d_gd_addRoad_15 fl_gd_35 (is_gd hh) (r_gd_hours hh) ?_
  refine V_iload_1 d_gd_addRoad_18 ?_
  refine V_aald d_gd_addRoad_19 (is_gd_hours hh) (by omega) (by omega) (r_gd_hoursrow hh (by omega)) ?_
  refine V_iload_2 d_gd_addRoad_20 ?_
  refine V_iload_4 d_gd_addRoad_21 ?_
  refine V_iast d_gd_addRoad_23 (is_gd_hours_row hh (by omega)) (by omega) (by omega) ?_
  refine V_aload_0 d_gd_addRoad_24 ?_
  refine V_getR d_gd_addRoad_25 fl_gd_35 (is_gd hh) (r_gd_hours hh) ?_
  refine V_iload_2 d_gd_addRoad_28 ?_
  refine V_aald d_gd_addRoad_29 (is_gd_hours hh) (by omega) (by omega) (r_gd_hoursrow hh (by omega)) ?_
  refine V_iload_1 d_gd_addRoad_30 ?_
  refine V_iload_4 d_gd_addRoad_31 ?_
  refine V_iast d_gd_addRoad_33 (is_gd_hours_row hh (by omega)) (by omega) (by omega) ?_
  refine V_aload_0 d_gd_addRoad_34 ?_
  refine V_getR d_gd_addRoad_35 fl_gd_9 (is_gd hh) (r_gd_counts hh) ?_
  refine V_bipush 6 d_gd_addRoad_38 (by decide) ?_
  refine V_dup2 d_gd_addRoad_40 rfl rfl ?_
  refine V_iald d_gd_addRoad_41 (is_gd_counts hh) (by omega) (by omega) ?_
  rw [q_up_at (by omega), q_up_at (by omega), hc]
  refine V_iconst 1 d_gd_addRoad_42 ?_
  refine V_iadd d_gd_addRoad_43 ?_
  refine V_iast d_gd_addRoad_44 (is_gd_counts hh) (by omega) (by omega) ?_
  refine V_return d_gd_addRoad_45 (hR _ ?_)
  have e1 := ((hE.up hh (j := 37 + a) (by omega) (by omega) b (min v (S (37 + a) b))).up hh (j := 37 + b) (by omega) (by omega) a (min v (S (37 + a) b))).up hh (j := 1) (by decide) (by decide) 6 (S 1 6 + 1)
  rw [show h + (37 + a) = h + 37 + a by omega, show h + (37 + b) = h + 37 + b by omega] at e1
  exact ⟨e1, fun j i c d e => by rw [q_up_at (by omega), q_up_at (by omega), q_up_at (by omega)], fun j i c => by rw [q_up_at (by omega), q_up_at (by omega), q_up_at (by omega)]⟩
end STM3
