/-! the class reads statements: roads, sightings, traits -/
def sSeen8 (T : Int → Int) (N i : Int) (S : q_F) (p e : Int) : q_R (q_F × Int × Int) := if wd T N p e = 11 then .inr (q_up (q_up S (46 + i) 4 1) 1 4 (i + 1), sk T N (le T N p), le T N p) else rb (l_word T N 12 p e) (fun u => .inr (q_up (q_up S (46 + i) 4 0) 1 4 (i + 1), u.1, u.2))
def sSeen7 (T : Int → Int) (N i : Int) (S : q_F) (p e : Int) : q_R (q_F × Int × Int) := rb (sNum S T N (46 + i) 3 0 100 p e) (fun s => sSeen8 T N i s.1 s.2.1 s.2.2)
def sSeen6 (T : Int → Int) (N i : Int) (S : q_F) (p e : Int) : q_R (q_F × Int × Int) := rb (l_word T N 10 p e) (fun u => sSeen7 T N i S u.1 u.2)
def sSeen5 (T : Int → Int) (N i : Int) (S : q_F) (p e : Int) : q_R (q_F × Int × Int) := rb (sNum S T N (46 + i) 2 0 99 p e) (fun s => sSeen6 T N i s.1 s.2.1 s.2.2)
def sSeen4 (T : Int → Int) (N i : Int) (S : q_F) (p e : Int) : q_R (q_F × Int × Int) := rb (l_word T N 9 p e) (fun u => sSeen5 T N i S u.1 u.2)
def sSeen3 (T : Int → Int) (N i : Int) (S : q_F) (p e : Int) : q_R (q_F × Int × Int) := rb (sOld S T N 3 p e) (fun s => sSeen4 T N i (q_up S (46 + i) 1 s.1) s.2.1 s.2.2)
def sSeen2 (T : Int → Int) (N i : Int) (S : q_F) (p e : Int) : q_R (q_F × Int × Int) := rb (l_word T N 8 p e) (fun u => sSeen3 T N i S u.1 u.2)
def sSeen (S : q_F) (T : Int → Int) (N p e : Int) : q_R (q_F × Int × Int) := rb (sOld S T N 1 p e) (fun s => sSeen2 T N (S 1 4) (q_up S (46 + S 1 4) 0 s.1) s.2.1 s.2.2)
section STM4
variable {D : q_D} {f f' S : q_F} {A : q_As} {g h : Int} {T : Int → Int} {N p e : Int}
theorem sOld_rg (hW : pW S) {k v q d : Int} (hk : 0 ≤ k ∧ k < 4) (hs : sOld S T N k p e = .inr (v, q, d)) : 0 ≤ v ∧ v < S 1 k := by
  unfold sOld at hs
  cases hl : l_name T N p e with
  | inl e0 => rw [hl] at hs; cases hs
  | inr u =>
    rw [hl] at hs
    have hs : (if nmS S k (pk32 u.1) = -1 then (.inl (3, p) : q_R (Int × Int × Int)) else .inr (nmS S k (pk32 u.1), u.2.1, u.2.2)) = .inr (v, q, d) := hs
    have hr := nmS_rg hW hk (pk32 u.1)
    split at hs
    · cases hs
    · cases hs; omega
theorem ok_readRoad (hh : q_G h) {L : List Int} (hC : cM h f S T N p e L) (hW : pW S) (hroom : S 1 6 < 20) : OkI D m_gr_readRoad [vr D 3] (Zg g h) f (fun x f' => cS h f f' T N x L (sRoad S T N p e)) := by
  have hg2 := q_G51 hh
  have hT0 := cT.refl hC
  refine OkB_of (L0 := [vr D 3, vu, vu]) mi_gr_readRoad rfl rfl (Nat.le_of_ble_eq_true rfl) (fun C hR => ?_)
  generalize hr : sRoad S T N p e = r at *
  unfold sRoad at hr
  have h3 := hW.2.2.2.1
  have K57 : ∀ (F : q_F) (a b q d : Int), cT h f F S T N q d L → (0 ≤ a ∧ a < 8) → (0 ≤ b ∧ b < 8) → ¬ a = b → sRoad3 S T N a b q d = r → V D C m_gr_readRoad 57 [vr D 3, vi a, vi b] [] (Zg g h) F := by
    intro F a b q d hT1 ha hb hab hr1
    unfold sRoad3 at hr1
    cases hn : l_num T N 1 9 q d with
    | inl e0 =>
      rw [hn] at hr1
      refine V_aload_0 d_gr_readRoad_57 ?_
      refine V_getR d_gr_readRoad_58 fl_gr_9 is_gr r_gr_tape ?_
      refine V_iconst 1 d_gr_readRoad_61 ?_
      refine V_bipush 9 d_gr_readRoad_62 (by decide) ?_
      refine V_cvI2 d_gr_readRoad_64 ml_gr_155 mv_tp_takeNumber (by decide) (Nat.le_of_ble_eq_true rfl) is_tp (ok_takeNumber hT1.1.1 (by decide) (by decide)) ?_
      rintro x F2 hx
      obtain ⟨rfl, hz⟩ := cV.il hT1 hx hn
      refine V_if_ne 72 d_gr_readRoad_67 (by decide) (by omega) (fun c67 => by omega) (fun c67 => ?_)
      refine V_iconst 0 d_gr_readRoad_70 ?_
      refine V_ireturn d_gr_readRoad_71 (hR _ _ (by decide) ?_)
      rw [← hr1]; exact hz
    | inr s =>
      obtain ⟨v, q2, d2⟩ := s
      rw [hn] at hr1
      have hv : 0 ≤ v ∧ v ≤ 9 := by
        unfold l_num at hn
        split at hn
        · split at hn
          · split at hn
            · next hv => cases hn; omega
            · cases hn
          · cases hn
        · cases hn
      refine V_aload_0 d_gr_readRoad_57 ?_
      refine V_getR d_gr_readRoad_58 fl_gr_9 is_gr r_gr_tape ?_
      refine V_iconst 1 d_gr_readRoad_61 ?_
      refine V_bipush 9 d_gr_readRoad_62 (by decide) ?_
      refine V_cvI2 d_gr_readRoad_64 ml_gr_155 mv_tp_takeNumber (by decide) (Nat.le_of_ble_eq_true rfl) is_tp (ok_takeNumber hT1.1.1 (by decide) (by decide)) ?_
      rintro x F2 hx
      obtain ⟨rfl, hT2, a6, -⟩ := cV.in hh hT1 hx hn
      have a6 : F2 1 6 = v := a6
      refine V_if_ne 72 d_gr_readRoad_67 (by decide) (by omega) (fun c67 => ?_) (fun c67 => by omega)
      refine V_aload_0 d_gr_readRoad_72 ?_
      refine V_getR d_gr_readRoad_73 fl_gr_24 is_gr (r_gr_into hh) ?_
      refine V_iload_1 d_gr_readRoad_76 ?_
      refine V_iload_2 d_gr_readRoad_77 ?_
      refine V_aload_0 d_gr_readRoad_78 ?_
      refine V_getR d_gr_readRoad_79 fl_gr_9 is_gr r_gr_tape ?_
      refine V_getI d_gr_readRoad_82 fl_gr_149 is_tp ?_
      rw [a6]
      refine V_cvV3 d_gr_readRoad_85 ml_gr_158 mv_gd_addRoad (by decide) (Nat.le_of_ble_eq_true rfl) (is_gd hh) (ok_addRoad hh hT2.1.2.1 hW ha hb hab hv hroom) ?_
      rintro F3 ⟨e3, k3, n3⟩
      refine V_iconst 1 d_gr_readRoad_88 ?_
      refine V_ireturn d_gr_readRoad_89 (hR _ _ (by decide) ?_)
      rw [← hr1]
      exact ⟨rfl, hT2.1.1.fr (fun j i hj => n3 j i (by omega)), e3, ⟨by rw [n3 _ _ (by decide)]; exact hT2.1.2.2.1, fun i hi => by rw [n3 _ _ (by decide)]; exact hT2.1.2.2.2 i hi⟩, by rw [n3 _ _ (by decide)]; exact hT2.2.1, by rw [n3 _ _ (by decide)]; exact hT2.2.2.1, hT2.2.2.2.tr k3⟩
  have K18 : ∀ (F : q_F) (a q d : Int), cT h f F S T N q d L → (0 ≤ a ∧ a < 8) → rb (sOld S T N 3 q d) (fun u => if a = u.1 then .inl (3, q) else sRoad3 S T N a u.1 u.2.1 u.2.2) = r → V D C m_gr_readRoad 18 [vr D 3, vi a, vu] [] (Zg g h) F := by
    intro F a q d hT1 ha hr1
    cases hn : sOld S T N 3 q d with
    | inl e0 =>
      rw [hn] at hr1
      refine V_aload_0 d_gr_readRoad_18 ?_
      refine V_iconst 3 d_gr_readRoad_19 ?_
      refine V_cvI1 d_gr_readRoad_20 ml_gr_146 mv_gr_readKnownName (by decide) (Nat.le_of_ble_eq_true rfl) is_gr (ok_readKnownName hh hT1.1 hW (by decide)) ?_
      rintro x F2 hx
      obtain ⟨rfl, hz⟩ := cV.il hT1 hx hn
      refine V_if_ne 28 d_gr_readRoad_23 (by decide) (by omega) (fun c23 => by omega) (fun c23 => ?_)
      refine V_iconst 0 d_gr_readRoad_26 ?_
      refine V_ireturn d_gr_readRoad_27 (hR _ _ (by decide) ?_)
      rw [← hr1]; exact hz
    | inr s =>
      obtain ⟨b, q2, d2⟩ := s
      have hb := sOld_rg hW (by decide) hn
      rw [hn] at hr1
      have hr2 : (if a = b then .inl (3, q) else sRoad3 S T N a b q2 d2) = r := hr1
      refine V_aload_0 d_gr_readRoad_18 ?_
      refine V_iconst 3 d_gr_readRoad_19 ?_
      refine V_cvI1 d_gr_readRoad_20 ml_gr_146 mv_gr_readKnownName (by decide) (Nat.le_of_ble_eq_true rfl) is_gr (ok_readKnownName hh hT1.1 hW (by decide)) ?_
      rintro x F2 hx
      obtain ⟨rfl, hT2, a6, a5⟩ := cV.in hh hT1 hx hn
      have a6 : F2 1 6 = b := a6
      refine V_if_ne 28 d_gr_readRoad_23 (by decide) (by omega) (fun c23 => ?_) (fun c23 => by omega)
      refine V_aload_0 d_gr_readRoad_28 ?_
      refine V_getR d_gr_readRoad_29 fl_gr_9 is_gr r_gr_tape ?_
      refine V_getI d_gr_readRoad_32 fl_gr_149 is_tp ?_
      rw [a6]
      refine V_istore_2 d_gr_readRoad_35 rfl ?_
      refine V_iload_1 d_gr_readRoad_36 ?_
      refine V_iload_2 d_gr_readRoad_37 ?_
      refine V_icmp_ne 57 d_gr_readRoad_38 (by decide) (by omega) (by omega) (fun c38 => ?_) (fun c38 => ?_)
      · skip
        exact K57 F2 a b q2 d2 hT2 ha (by omega) c38 (by rw [if_neg c38] at hr2; exact hr2)
      · skip
        refine V_aload_0 d_gr_readRoad_41 ?_
        refine V_getR d_gr_readRoad_42 fl_gr_9 is_gr r_gr_tape ?_
        refine V_iconst 3 d_gr_readRoad_45 ?_
        refine V_aload_0 d_gr_readRoad_46 ?_
        refine V_getR d_gr_readRoad_47 fl_gr_9 is_gr r_gr_tape ?_
        refine V_getI d_gr_readRoad_50 fl_gr_152 is_tp ?_
        rw [a5]
        refine V_cvI2 d_gr_readRoad_53 ml_gr_58 mv_tp_fail (by decide) (Nat.le_of_ble_eq_true rfl) is_tp (ok_tfail (by decide)) ?_
        rintro x f9 ⟨hx, e9⟩
        rw [hx, e9]; clear hx e9 f9
        refine V_ireturn d_gr_readRoad_56 (hR _ _ (by decide) ?_)
        rw [if_pos (by omega)] at hr2
        rw [← hr2]
        exact ⟨rfl, by rw [q_up_ne (Or.inr (by decide)), q_up_eq], q_up_eq _ _ _ _, hT2.2.2.2.tr (cK.refl F2).up.up.s⟩
  cases hn : sOld S T N 3 p e with
  | inl e0 =>
    rw [hn] at hr
    refine V_aload_0 d_gr_readRoad_0 ?_
    refine V_iconst 3 d_gr_readRoad_1 ?_
    refine V_cvI1 d_gr_readRoad_2 ml_gr_146 mv_gr_readKnownName (by decide) (Nat.le_of_ble_eq_true rfl) is_gr (ok_readKnownName hh hC hW (by decide)) ?_
    rintro x F2 hx
    obtain ⟨rfl, hz⟩ := cV.il hT0 hx hn
    refine V_if_ne 10 d_gr_readRoad_5 (by decide) (by omega) (fun c5 => by omega) (fun c5 => ?_)
    refine V_iconst 0 d_gr_readRoad_8 ?_
    refine V_ireturn d_gr_readRoad_9 (hR _ _ (by decide) ?_)
    rw [← hr]; exact hz
  | inr s =>
    obtain ⟨a, q2, d2⟩ := s
    have ha := sOld_rg hW (by decide) hn
    rw [hn] at hr
    refine V_aload_0 d_gr_readRoad_0 ?_
    refine V_iconst 3 d_gr_readRoad_1 ?_
    refine V_cvI1 d_gr_readRoad_2 ml_gr_146 mv_gr_readKnownName (by decide) (Nat.le_of_ble_eq_true rfl) is_gr (ok_readKnownName hh hC hW (by decide)) ?_
    rintro x F2 hx
    obtain ⟨rfl, hT2, a6, a5⟩ := cV.in hh hT0 hx hn
    have a6 : F2 1 6 = a := a6
    refine V_if_ne 10 d_gr_readRoad_5 (by decide) (by omega) (fun c5 => ?_) (fun c5 => by omega)
    refine V_aload_0 d_gr_readRoad_10 ?_
    refine V_getR d_gr_readRoad_11 fl_gr_9 is_gr r_gr_tape ?_
    refine V_getI d_gr_readRoad_14 fl_gr_149 is_tp ?_
    rw [a6]
    refine V_istore_1 d_gr_readRoad_17 rfl ?_
    exact K18 F2 a q2 d2 hT2 (by omega) hr
theorem pW.up (hW : pW S) {j k x : Int} (hj : 46 ≤ j) : pW (q_up S j k x) := by
  unfold pW
  simp only [q_up_at (f := S) (j := j) (k := k) (x := x) (a := 1) (by omega)]
  refine ⟨hW.1, hW.2.1, hW.2.2.1, hW.2.2.2.1, hW.2.2.2.2.1, hW.2.2.2.2.2.1, hW.2.2.2.2.2.2.1, fun i w a b c d => ?_, fun a b c d e f => ?_⟩
  · rw [q_up_at (by omega)]; exact hW.2.2.2.2.2.2.2.1 i w a b c d
  · rw [q_up_at (by omega)]; exact hW.2.2.2.2.2.2.2.2 a b c d e f
theorem cT.up (hh : q_G h) {F : q_F} {L : List Int} (hT : cT h f F S T N p e L) {j : Int} (h0 : 0 ≤ j) (h1 : j < 84) (k x : Int) : cT h f (q_up F (h + j) k x) (q_up S j k x) T N p e L := by
  have := q_G51 hh
  exact ⟨⟨hT.1.1.up hh h0 k x, hT.1.2.1.up hh h0 h1 k x, ⟨by rw [q_up_at (by omega)]; exact hT.1.2.2.1, fun i hi => by rw [q_up_at (by omega)]; exact hT.1.2.2.2 i hi⟩⟩, by rw [q_up_at (by omega)]; exact hT.2.1, by rw [q_up_at (by omega)]; exact hT.2.2.1, sK.up hT.2.2.2 h0 h1 k x⟩
theorem ok_readSeen (hh : q_G h) {L : List Int} (hC : cM h f S T N p e L) (hW : pW S) (hroom : S 1 4 < 24) : OkI D m_gr_readSeen [vr D 3] (Zg g h) f (fun x f' => cS h f f' T N x L (sSeen S T N p e)) := by
  have hg2 := q_G51 hh
  have hT0 := cT.refl hC
  have hc1 := hC.2.1.1 1 4 (by decide) (by decide)
  have hi0 := hW.2.2.2.2.1
  refine OkB_of (L0 := [vr D 3, vu, vu]) mi_gr_readSeen rfl rfl (Nat.le_of_ble_eq_true rfl) (fun C hR => ?_)
  generalize hr : sSeen S T N p e = r at *
  unfold sSeen at hr
  have hi : 0 ≤ S 1 4 ∧ S 1 4 < 24 := by omega
  generalize hi2 : S 1 4 = i at *
  have hce : q_ce 274 (h + (46 + i)) 20 5 := by rw [show h + (46 + i) = h + 46 + i by omega]; exact is_gd_sightings_row hh hi
  have KF : ∀ (F : q_F) (x : Int), cS h f F T N 0 L r → V D C m_gr_readSeen 122 [vr D 3, vr D (h + (46 + i)), vu] [] (Zg g h) F := by
    intro F x hx
    refine V_iconst 0 d_gr_readSeen_122 ?_
    refine V_istore_2 d_gr_readSeen_123 rfl ?_
    refine V_iload_2 d_gr_readSeen_124 ?_
    refine V_if_ne 130 d_gr_readSeen_125 (by decide) (by omega) (fun c125 => by omega) (fun c125 => ?_)
    refine V_iconst 0 d_gr_readSeen_128 ?_
    refine V_ireturn d_gr_readSeen_129 (hR _ _ (by decide) ?_)
    exact hx
  have K170 : ∀ (F S1 : q_F) (q d : Int) (u : Value), cT h f F S1 T N q d L → S1 1 4 = i → .inr (q_up S1 1 4 (i + 1), q, d) = r → V D C m_gr_readSeen 170 [vr D 3, vr D (h + (46 + i)), u] [] (Zg g h) F := by
    intro F S1 q d u hT1 h14 hr1
    have hc := hT1.1.2.1.1 1 4 (by decide) (by decide)
    refine V_aload_0 d_gr_readSeen_170 ?_
    refine V_getR d_gr_readSeen_171 fl_gr_24 is_gr (r_gr_into hh) ?_
    refine V_getR d_gr_readSeen_174 fl_gr_121 (is_gd hh) (r_gd_counts hh) ?_
    refine V_iconst 4 d_gr_readSeen_177 ?_
    refine V_dup2 d_gr_readSeen_178 rfl rfl ?_
    refine V_iald d_gr_readSeen_179 (is_gd_counts hh) (by omega) (by omega) ?_
    rw [hc, h14]
    refine V_iconst 1 d_gr_readSeen_180 ?_
    refine V_iadd d_gr_readSeen_181 ?_
    refine V_iast d_gr_readSeen_182 (is_gd_counts hh) (by omega) (by omega) ?_
    refine V_iconst 1 d_gr_readSeen_183 ?_
    refine V_ireturn d_gr_readSeen_184 (hR _ _ (by decide) ?_)
    rw [← hr1]
    exact (hT1.up hh (j := 1) (by decide) (by decide) 4 (i + 1)).fin
  have K130 : ∀ (F S1 : q_F) (q d : Int), cT h f F S1 T N q d L → S1 1 4 = i → sSeen8 T N i S1 q d = r → V D C m_gr_readSeen 130 [vr D 3, vr D (h + (46 + i)), vi 1] [] (Zg g h) F := by
    intro F S1 q d hT1 h14 hr1
    unfold sSeen8 at hr1
    by_cases hw : wd T N q d = 11
    · rw [if_pos hw] at hr1
      refine V_aload_1 d_gr_readSeen_130 ?_
      refine V_iconst 4 d_gr_readSeen_131 ?_
      refine V_aload_0 d_gr_readSeen_132 ?_
      refine V_getR d_gr_readSeen_133 fl_gr_9 is_gr r_gr_tape ?_
      refine V_bipush 11 d_gr_readSeen_136 (by decide) ?_
      refine V_cvI1 d_gr_readSeen_138 ml_gr_165 mv_tp_passOverWord (by decide) (Nat.le_of_ble_eq_true rfl) is_tp (ok_passOverWord hT1.1.1 (by decide)) ?_
      rintro x F2 ⟨hx, a3, a4, k3⟩
      obtain ⟨rfl, -, t2⟩ := hx.resolve_right (fun h => h.2.1 hw)
      have hT2 : cT h f F2 S1 T N (sk T N (le T N q)) (le T N q) L := ⟨hT1.1.ck hh k3 t2, by rw [a3, hT1.2.1], by rw [a4, hT1.2.2.1], hT1.2.2.2.tr k3.s⟩
      refine V_if_eq 148 d_gr_readSeen_141 (by decide) (by omega) (fun c141 => by omega) (fun c141 => ?_)
      refine V_iconst 1 d_gr_readSeen_144 ?_
      refine V_goto 149 d_gr_readSeen_145 (by decide) ?_
      refine V_iast d_gr_readSeen_149 hce (by decide) (by decide) ?_
      refine V_aload_1 d_gr_readSeen_150 ?_
      refine V_iconst 4 d_gr_readSeen_151 ?_
      refine V_iald d_gr_readSeen_152 hce (by decide) (by decide) ?_
      rw [q_up_eq]
      refine V_if_ne 170 d_gr_readSeen_153 (by decide) (by omega) (fun c153 => ?_) (fun c153 => by omega)
      exact K170 _ _ _ _ _ (hT2.up hh (j := 46 + i) (by omega) (by omega) 4 1) (by rw [q_up_at (by omega)]; exact h14) hr1
    · rw [if_neg hw] at hr1
      cases hl : l_word T N 12 q d with
      | inl e0 =>
        rw [hl] at hr1
        refine V_aload_1 d_gr_readSeen_130 ?_
        refine V_iconst 4 d_gr_readSeen_131 ?_
        refine V_aload_0 d_gr_readSeen_132 ?_
        refine V_getR d_gr_readSeen_133 fl_gr_9 is_gr r_gr_tape ?_
        refine V_bipush 11 d_gr_readSeen_136 (by decide) ?_
        refine V_cvI1 d_gr_readSeen_138 ml_gr_165 mv_tp_passOverWord (by decide) (Nat.le_of_ble_eq_true rfl) is_tp (ok_passOverWord hT1.1.1 (by decide)) ?_
        rintro x F2 ⟨hx, a3, a4, k3⟩
        obtain ⟨rfl, -, t2⟩ := hx.resolve_left (fun h => hw h.2.1)
        have hT2 : cT h f F2 S1 T N q d L := ⟨hT1.1.ck hh k3 t2, by rw [a3, hT1.2.1], by rw [a4, hT1.2.2.1], hT1.2.2.2.tr k3.s⟩
        have hT3 := hT2.up hh (j := 46 + i) (by omega) (by omega) 4 0
        refine V_if_eq 148 d_gr_readSeen_141 (by decide) (by omega) (fun c141 => ?_) (fun c141 => by omega)
        refine V_iconst 0 d_gr_readSeen_148 ?_
        refine V_iast d_gr_readSeen_149 hce (by decide) (by decide) ?_
        refine V_aload_1 d_gr_readSeen_150 ?_
        refine V_iconst 4 d_gr_readSeen_151 ?_
        refine V_iald d_gr_readSeen_152 hce (by decide) (by decide) ?_
        rw [q_up_eq]
        refine V_if_ne 170 d_gr_readSeen_153 (by decide) (by omega) (fun c153 => by omega) (fun c153 => ?_)
        refine V_aload_0 d_gr_readSeen_156 ?_
        refine V_getR d_gr_readSeen_157 fl_gr_9 is_gr r_gr_tape ?_
        refine V_bipush 12 d_gr_readSeen_160 (by decide) ?_
        refine V_cvI1 d_gr_readSeen_162 ml_gr_134 mv_tp_takeWord (by decide) (Nat.le_of_ble_eq_true rfl) is_tp (ok_takeWord hT3.1.1 (by decide)) ?_
        rintro x F4 hx
        obtain ⟨rfl, hz⟩ := cO.il hT3 hx hl
        refine V_if_ne 170 d_gr_readSeen_165 (by decide) (by omega) (fun c165 => by omega) (fun c165 => ?_)
        refine V_iconst 0 d_gr_readSeen_168 ?_
        refine V_ireturn d_gr_readSeen_169 (hR _ _ (by decide) ?_)
        rw [← hr1]; exact hz
      | inr u =>
        rw [hl] at hr1
        refine V_aload_1 d_gr_readSeen_130 ?_
        refine V_iconst 4 d_gr_readSeen_131 ?_
        refine V_aload_0 d_gr_readSeen_132 ?_
        refine V_getR d_gr_readSeen_133 fl_gr_9 is_gr r_gr_tape ?_
        refine V_bipush 11 d_gr_readSeen_136 (by decide) ?_
        refine V_cvI1 d_gr_readSeen_138 ml_gr_165 mv_tp_passOverWord (by decide) (Nat.le_of_ble_eq_true rfl) is_tp (ok_passOverWord hT1.1.1 (by decide)) ?_
        rintro x F2 ⟨hx, a3, a4, k3⟩
        obtain ⟨rfl, -, t2⟩ := hx.resolve_left (fun h => hw h.2.1)
        have hT2 : cT h f F2 S1 T N q d L := ⟨hT1.1.ck hh k3 t2, by rw [a3, hT1.2.1], by rw [a4, hT1.2.2.1], hT1.2.2.2.tr k3.s⟩
        have hT3 := hT2.up hh (j := 46 + i) (by omega) (by omega) 4 0
        refine V_if_eq 148 d_gr_readSeen_141 (by decide) (by omega) (fun c141 => ?_) (fun c141 => by omega)
        refine V_iconst 0 d_gr_readSeen_148 ?_
        refine V_iast d_gr_readSeen_149 hce (by decide) (by decide) ?_
        refine V_aload_1 d_gr_readSeen_150 ?_
        refine V_iconst 4 d_gr_readSeen_151 ?_
        refine V_iald d_gr_readSeen_152 hce (by decide) (by decide) ?_
        rw [q_up_eq]
        refine V_if_ne 170 d_gr_readSeen_153 (by decide) (by omega) (fun c153 => by omega) (fun c153 => ?_)
        refine V_aload_0 d_gr_readSeen_156 ?_
        refine V_getR d_gr_readSeen_157 fl_gr_9 is_gr r_gr_tape ?_
        refine V_bipush 12 d_gr_readSeen_160 (by decide) ?_
        refine V_cvI1 d_gr_readSeen_162 ml_gr_134 mv_tp_takeWord (by decide) (Nat.le_of_ble_eq_true rfl) is_tp (ok_takeWord hT3.1.1 (by decide)) ?_
        rintro x F4 hx
        obtain ⟨rfl, hT4⟩ := cO.in hh hT3 hx hl
        refine V_if_ne 170 d_gr_readSeen_165 (by decide) (by omega) (fun c165 => ?_) (fun c165 => by omega)
        exact K170 _ _ _ _ _ hT4 (by rw [q_up_at (by omega)]; exact h14) hr1
  have K106 : ∀ (F S1 : q_F) (q d : Int), cT h f F S1 T N q d L → S1 1 4 = i → sSeen7 T N i S1 q d = r → V D C m_gr_readSeen 106 [vr D 3, vr D (h + (46 + i)), vu] [] (Zg g h) F := by
    intro F S1 q d hT1 h14 hr1
    unfold sSeen7 at hr1
    have okf := ok_readNumber (D := D) (g := g) hh hT1.1 (j := 46 + i) (k := 3) (lo := 0) (hi := 100) (n := 5) (by omega) hce (by decide) (by decide) (by decide) (by decide)
    cases hw : sNum S1 T N (46 + i) 3 0 100 q d with
    | inl e0 =>
      rw [hw] at hr1
      refine V_aload_0 d_gr_readSeen_106 ?_
      refine V_aload_1 d_gr_readSeen_107 ?_
      refine V_iconst 3 d_gr_readSeen_108 ?_
      refine V_iconst 0 d_gr_readSeen_109 ?_
      refine V_bipush 100 d_gr_readSeen_110 (by decide) ?_
      refine V_cvI4 d_gr_readSeen_112 ml_gr_114 mv_gr_readNumber (by decide) (Nat.le_of_ble_eq_true rfl) is_gr (okf) ?_
      rintro x2 F2 hx2
      obtain ⟨rfl, hz2⟩ := cS.il hT1 hx2 hw
      refine V_if_eq 122 d_gr_readSeen_115 (by decide) (by omega) (fun c115 => ?_) (fun c115 => by omega)
      exact KF F2 0 (by rw [← hr1]; exact hz2)
    | inr s =>
      obtain ⟨S2, q2, d2⟩ := s
      rw [hw] at hr1
      have e1 := sNum_1 (by omega) hw 4
      refine V_aload_0 d_gr_readSeen_106 ?_
      refine V_aload_1 d_gr_readSeen_107 ?_
      refine V_iconst 3 d_gr_readSeen_108 ?_
      refine V_iconst 0 d_gr_readSeen_109 ?_
      refine V_bipush 100 d_gr_readSeen_110 (by decide) ?_
      refine V_cvI4 d_gr_readSeen_112 ml_gr_114 mv_gr_readNumber (by decide) (Nat.le_of_ble_eq_true rfl) is_gr (okf) ?_
      rintro x2 F2 hx2
      obtain ⟨rfl, hT2⟩ := cS.in hT1 hx2 hw
      refine V_if_eq 122 d_gr_readSeen_115 (by decide) (by omega) (fun c115 => by omega) (fun c115 => ?_)
      refine V_iconst 1 d_gr_readSeen_118 ?_
      refine V_goto 123 d_gr_readSeen_119 (by decide) ?_
      refine V_istore_2 d_gr_readSeen_123 rfl ?_
      refine V_iload_2 d_gr_readSeen_124 ?_
      refine V_if_ne 130 d_gr_readSeen_125 (by decide) (by omega) (fun c125 => ?_) (fun c125 => by omega)
      exact K130 F2 S2 _ _ hT2 (by rw [e1]; exact h14) hr1
  have K94 : ∀ (F S1 : q_F) (q d : Int), cT h f F S1 T N q d L → S1 1 4 = i → sSeen6 T N i S1 q d = r → V D C m_gr_readSeen 94 [vr D 3, vr D (h + (46 + i)), vu] [] (Zg g h) F := by
    intro F S1 q d hT1 h14 hr1
    unfold sSeen6 at hr1
    cases hw : l_word T N 10 q d with
    | inl e0 =>
      rw [hw] at hr1
      refine V_aload_0 d_gr_readSeen_94 ?_
      refine V_getR d_gr_readSeen_95 fl_gr_9 is_gr r_gr_tape ?_
      refine V_bipush 10 d_gr_readSeen_98 (by decide) ?_
      refine V_cvI1 d_gr_readSeen_100 ml_gr_134 mv_tp_takeWord (by decide) (Nat.le_of_ble_eq_true rfl) is_tp (ok_takeWord hT1.1.1 (by decide)) ?_
      rintro x2 F2 hx2
      obtain ⟨rfl, hz2⟩ := cO.il hT1 hx2 hw
      refine V_if_eq 122 d_gr_readSeen_103 (by decide) (by omega) (fun c103 => ?_) (fun c103 => by omega)
      exact KF F2 0 (by rw [← hr1]; exact hz2)
    | inr s =>
      rw [hw] at hr1
      refine V_aload_0 d_gr_readSeen_94 ?_
      refine V_getR d_gr_readSeen_95 fl_gr_9 is_gr r_gr_tape ?_
      refine V_bipush 10 d_gr_readSeen_98 (by decide) ?_
      refine V_cvI1 d_gr_readSeen_100 ml_gr_134 mv_tp_takeWord (by decide) (Nat.le_of_ble_eq_true rfl) is_tp (ok_takeWord hT1.1.1 (by decide)) ?_
      rintro x2 F2 hx2
      obtain ⟨rfl, hT2⟩ := cO.in hh hT1 hx2 hw
      refine V_if_eq 122 d_gr_readSeen_103 (by decide) (by omega) (fun c103 => by omega) (fun c103 => ?_)
      exact K106 F2 S1 _ _ hT2 h14 hr1
  have K82 : ∀ (F S1 : q_F) (q d : Int), cT h f F S1 T N q d L → S1 1 4 = i → sSeen5 T N i S1 q d = r → V D C m_gr_readSeen 82 [vr D 3, vr D (h + (46 + i)), vu] [] (Zg g h) F := by
    intro F S1 q d hT1 h14 hr1
    unfold sSeen5 at hr1
    have okf := ok_readNumber (D := D) (g := g) hh hT1.1 (j := 46 + i) (k := 2) (lo := 0) (hi := 99) (n := 5) (by omega) hce (by decide) (by decide) (by decide) (by decide)
    cases hw : sNum S1 T N (46 + i) 2 0 99 q d with
    | inl e0 =>
      rw [hw] at hr1
      refine V_aload_0 d_gr_readSeen_82 ?_
      refine V_aload_1 d_gr_readSeen_83 ?_
      refine V_iconst 2 d_gr_readSeen_84 ?_
      refine V_iconst 0 d_gr_readSeen_85 ?_
      refine V_bipush 99 d_gr_readSeen_86 (by decide) ?_
      refine V_cvI4 d_gr_readSeen_88 ml_gr_114 mv_gr_readNumber (by decide) (Nat.le_of_ble_eq_true rfl) is_gr (okf) ?_
      rintro x2 F2 hx2
      obtain ⟨rfl, hz2⟩ := cS.il hT1 hx2 hw
      refine V_if_eq 122 d_gr_readSeen_91 (by decide) (by omega) (fun c91 => ?_) (fun c91 => by omega)
      exact KF F2 0 (by rw [← hr1]; exact hz2)
    | inr s =>
      obtain ⟨S2, q2, d2⟩ := s
      rw [hw] at hr1
      have e1 := sNum_1 (by omega) hw 4
      refine V_aload_0 d_gr_readSeen_82 ?_
      refine V_aload_1 d_gr_readSeen_83 ?_
      refine V_iconst 2 d_gr_readSeen_84 ?_
      refine V_iconst 0 d_gr_readSeen_85 ?_
      refine V_bipush 99 d_gr_readSeen_86 (by decide) ?_
      refine V_cvI4 d_gr_readSeen_88 ml_gr_114 mv_gr_readNumber (by decide) (Nat.le_of_ble_eq_true rfl) is_gr (okf) ?_
      rintro x2 F2 hx2
      obtain ⟨rfl, hT2⟩ := cS.in hT1 hx2 hw
      refine V_if_eq 122 d_gr_readSeen_91 (by decide) (by omega) (fun c91 => by omega) (fun c91 => ?_)
      exact K94 F2 S2 _ _ hT2 (by rw [e1]; exact h14) hr1
  have K70 : ∀ (F S1 : q_F) (q d : Int), cT h f F S1 T N q d L → S1 1 4 = i → sSeen4 T N i S1 q d = r → V D C m_gr_readSeen 70 [vr D 3, vr D (h + (46 + i)), vu] [] (Zg g h) F := by
    intro F S1 q d hT1 h14 hr1
    unfold sSeen4 at hr1
    cases hw : l_word T N 9 q d with
    | inl e0 =>
      rw [hw] at hr1
      refine V_aload_0 d_gr_readSeen_70 ?_
      refine V_getR d_gr_readSeen_71 fl_gr_9 is_gr r_gr_tape ?_
      refine V_bipush 9 d_gr_readSeen_74 (by decide) ?_
      refine V_cvI1 d_gr_readSeen_76 ml_gr_134 mv_tp_takeWord (by decide) (Nat.le_of_ble_eq_true rfl) is_tp (ok_takeWord hT1.1.1 (by decide)) ?_
      rintro x2 F2 hx2
      obtain ⟨rfl, hz2⟩ := cO.il hT1 hx2 hw
      refine V_if_eq 122 d_gr_readSeen_79 (by decide) (by omega) (fun c79 => ?_) (fun c79 => by omega)
      exact KF F2 0 (by rw [← hr1]; exact hz2)
    | inr s =>
      rw [hw] at hr1
      refine V_aload_0 d_gr_readSeen_70 ?_
      refine V_getR d_gr_readSeen_71 fl_gr_9 is_gr r_gr_tape ?_
      refine V_bipush 9 d_gr_readSeen_74 (by decide) ?_
      refine V_cvI1 d_gr_readSeen_76 ml_gr_134 mv_tp_takeWord (by decide) (Nat.le_of_ble_eq_true rfl) is_tp (ok_takeWord hT1.1.1 (by decide)) ?_
      rintro x2 F2 hx2
      obtain ⟨rfl, hT2⟩ := cO.in hh hT1 hx2 hw
      refine V_if_eq 122 d_gr_readSeen_79 (by decide) (by omega) (fun c79 => by omega) (fun c79 => ?_)
      exact K82 F2 S1 _ _ hT2 h14 hr1
  have K50 : ∀ (F S1 : q_F) (q d : Int), cT h f F S1 T N q d L → pW S1 → S1 1 4 = i → sSeen3 T N i S1 q d = r → V D C m_gr_readSeen 50 [vr D 3, vr D (h + (46 + i)), vu] [] (Zg g h) F := by
    intro F S1 q d hT1 hW1 h14 hr1
    unfold sSeen3 at hr1
    cases hw : sOld S1 T N 3 q d with
    | inl e0 =>
      rw [hw] at hr1
      refine V_aload_0 d_gr_readSeen_50 ?_
      refine V_iconst 3 d_gr_readSeen_51 ?_
      refine V_cvI1 d_gr_readSeen_52 ml_gr_146 mv_gr_readKnownName (by decide) (Nat.le_of_ble_eq_true rfl) is_gr (ok_readKnownName hh hT1.1 hW1 (by decide)) ?_
      rintro x2 F2 hx2
      obtain ⟨rfl, hz2⟩ := cV.il hT1 hx2 hw
      refine V_if_ne 60 d_gr_readSeen_55 (by decide) (by omega) (fun c55 => by omega) (fun c55 => ?_)
      refine V_iconst 0 d_gr_readSeen_58 ?_
      refine V_ireturn d_gr_readSeen_59 (hR _ _ (by decide) ?_)
      rw [← hr1]; exact hz2
    | inr s =>
      obtain ⟨v, q2, d2⟩ := s
      rw [hw] at hr1
      refine V_aload_0 d_gr_readSeen_50 ?_
      refine V_iconst 3 d_gr_readSeen_51 ?_
      refine V_cvI1 d_gr_readSeen_52 ml_gr_146 mv_gr_readKnownName (by decide) (Nat.le_of_ble_eq_true rfl) is_gr (ok_readKnownName hh hT1.1 hW1 (by decide)) ?_
      rintro x2 F2 hx2
      obtain ⟨rfl, hT2, a6, -⟩ := cV.in hh hT1 hx2 hw
      have a6 : F2 1 6 = v := a6
      refine V_if_ne 60 d_gr_readSeen_55 (by decide) (by omega) (fun c55 => ?_) (fun c55 => by omega)
      refine V_aload_1 d_gr_readSeen_60 ?_
      refine V_iconst 1 d_gr_readSeen_61 ?_
      refine V_aload_0 d_gr_readSeen_62 ?_
      refine V_getR d_gr_readSeen_63 fl_gr_9 is_gr r_gr_tape ?_
      refine V_getI d_gr_readSeen_66 fl_gr_149 is_tp ?_
      rw [a6]
      refine V_iast d_gr_readSeen_69 hce (by decide) (by decide) ?_
      exact K70 _ _ _ _ (hT2.up hh (j := 46 + i) (by omega) (by omega) 1 v) (by rw [q_up_at (by omega)]; exact h14) hr1
  have K38 : ∀ (F S1 : q_F) (q d : Int), cT h f F S1 T N q d L → pW S1 → S1 1 4 = i → sSeen2 T N i S1 q d = r → V D C m_gr_readSeen 38 [vr D 3, vr D (h + (46 + i)), vu] [] (Zg g h) F := by
    intro F S1 q d hT1 hW1 h14 hr1
    unfold sSeen2 at hr1
    cases hw : l_word T N 8 q d with
    | inl e0 =>
      rw [hw] at hr1
      refine V_aload_0 d_gr_readSeen_38 ?_
      refine V_getR d_gr_readSeen_39 fl_gr_9 is_gr r_gr_tape ?_
      refine V_bipush 8 d_gr_readSeen_42 (by decide) ?_
      refine V_cvI1 d_gr_readSeen_44 ml_gr_134 mv_tp_takeWord (by decide) (Nat.le_of_ble_eq_true rfl) is_tp (ok_takeWord hT1.1.1 (by decide)) ?_
      rintro x2 F2 hx2
      obtain ⟨rfl, hz2⟩ := cO.il hT1 hx2 hw
      refine V_if_eq 58 d_gr_readSeen_47 (by decide) (by omega) (fun c47 => ?_) (fun c47 => by omega)
      refine V_iconst 0 d_gr_readSeen_58 ?_
      refine V_ireturn d_gr_readSeen_59 (hR _ _ (by decide) ?_)
      rw [← hr1]; exact hz2
    | inr s =>
      rw [hw] at hr1
      refine V_aload_0 d_gr_readSeen_38 ?_
      refine V_getR d_gr_readSeen_39 fl_gr_9 is_gr r_gr_tape ?_
      refine V_bipush 8 d_gr_readSeen_42 (by decide) ?_
      refine V_cvI1 d_gr_readSeen_44 ml_gr_134 mv_tp_takeWord (by decide) (Nat.le_of_ble_eq_true rfl) is_tp (ok_takeWord hT1.1.1 (by decide)) ?_
      rintro x2 F2 hx2
      obtain ⟨rfl, hT2⟩ := cO.in hh hT1 hx2 hw
      refine V_if_eq 58 d_gr_readSeen_47 (by decide) (by omega) (fun c47 => by omega) (fun c47 => ?_)
      exact K50 F2 S1 _ _ hT2 hW1 h14 hr1
  cases hw : sOld S T N 1 p e with
  | inl e0 =>
    rw [hw] at hr
    refine V_aload_0 d_gr_readSeen_0 ?_
    refine V_getR d_gr_readSeen_1 fl_gr_24 is_gr (r_gr_into hh) ?_
    refine V_getR d_gr_readSeen_4 fl_gr_162 (is_gd hh) (r_gd_sightings hh) ?_
    refine V_aload_0 d_gr_readSeen_7 ?_
    refine V_getR d_gr_readSeen_8 fl_gr_24 is_gr (r_gr_into hh) ?_
    refine V_getR d_gr_readSeen_11 fl_gr_121 (is_gd hh) (r_gd_counts hh) ?_
    refine V_iconst 4 d_gr_readSeen_14 ?_
    refine V_iald d_gr_readSeen_15 (is_gd_counts hh) (by omega) (by omega) ?_
    rw [hc1]
    refine V_aald d_gr_readSeen_16 (is_gd_sightings hh) (by omega) (by omega) (r_gd_sightingsrow hh (by omega)) ?_
    rw [show h + 46 + i = h + (46 + i) by omega]
    refine V_astore_1 d_gr_readSeen_17 rfl ?_
    refine V_aload_0 d_gr_readSeen_18 ?_
    refine V_iconst 1 d_gr_readSeen_19 ?_
    refine V_cvI1 d_gr_readSeen_20 ml_gr_146 mv_gr_readKnownName (by decide) (Nat.le_of_ble_eq_true rfl) is_gr (ok_readKnownName hh hC hW (by decide)) ?_
    rintro x2 F2 hx2
    obtain ⟨rfl, hz2⟩ := cV.il hT0 hx2 hw
    refine V_if_ne 28 d_gr_readSeen_23 (by decide) (by omega) (fun c23 => by omega) (fun c23 => ?_)
    refine V_iconst 0 d_gr_readSeen_26 ?_
    refine V_ireturn d_gr_readSeen_27 (hR _ _ (by decide) ?_)
    rw [← hr]; exact hz2
  | inr s =>
    obtain ⟨v, q2, d2⟩ := s
    rw [hw] at hr
    have hr2 : sSeen2 T N i (q_up S (46 + i) 0 v) q2 d2 = r := hr
    refine V_aload_0 d_gr_readSeen_0 ?_
    refine V_getR d_gr_readSeen_1 fl_gr_24 is_gr (r_gr_into hh) ?_
    refine V_getR d_gr_readSeen_4 fl_gr_162 (is_gd hh) (r_gd_sightings hh) ?_
    refine V_aload_0 d_gr_readSeen_7 ?_
    refine V_getR d_gr_readSeen_8 fl_gr_24 is_gr (r_gr_into hh) ?_
    refine V_getR d_gr_readSeen_11 fl_gr_121 (is_gd hh) (r_gd_counts hh) ?_
    refine V_iconst 4 d_gr_readSeen_14 ?_
    refine V_iald d_gr_readSeen_15 (is_gd_counts hh) (by omega) (by omega) ?_
    rw [hc1]
    refine V_aald d_gr_readSeen_16 (is_gd_sightings hh) (by omega) (by omega) (r_gd_sightingsrow hh (by omega)) ?_
    rw [show h + 46 + i = h + (46 + i) by omega]
    refine V_astore_1 d_gr_readSeen_17 rfl ?_
    refine V_aload_0 d_gr_readSeen_18 ?_
    refine V_iconst 1 d_gr_readSeen_19 ?_
    refine V_cvI1 d_gr_readSeen_20 ml_gr_146 mv_gr_readKnownName (by decide) (Nat.le_of_ble_eq_true rfl) is_gr (ok_readKnownName hh hC hW (by decide)) ?_
    rintro x2 F2 hx2
    obtain ⟨rfl, hT2, a6, -⟩ := cV.in hh hT0 hx2 hw
    have a6 : F2 1 6 = v := a6
    refine V_if_ne 28 d_gr_readSeen_23 (by decide) (by omega) (fun c23 => ?_) (fun c23 => by omega)
    refine V_aload_1 d_gr_readSeen_28 ?_
    refine V_iconst 0 d_gr_readSeen_29 ?_
    refine V_aload_0 d_gr_readSeen_30 ?_
    refine V_getR d_gr_readSeen_31 fl_gr_9 is_gr r_gr_tape ?_
    refine V_getI d_gr_readSeen_34 fl_gr_149 is_tp ?_
    rw [a6]
    refine V_iast d_gr_readSeen_37 hce (by decide) (by decide) ?_
    exact K38 _ _ _ _ (hT2.up hh (j := 46 + i) (by omega) (by omega) 0 v) (hW.up (by omega)) (by rw [q_up_at (by omega)]; exact hi2) hr2
end STM4
