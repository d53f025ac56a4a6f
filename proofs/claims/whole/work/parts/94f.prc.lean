/-! the class sets prices -/
def gE (S : q_F) (i s c : Int) : Int := if c = 7 then S 35 i else if c = 8 then S (46 + s) 2 else if c = 9 then S (46 + s) 3 else if c = 10 then S (46 + s) 4 else if c = 18 then unl S i s else if c = 19 then pss S i s else 0
def evV (E : Int → Int) (c : List Int) : Int := match ev E c [] with
  | some (v :: _) => v
  | _ => 0
def sl (L : List Int) (a b : Int) : List Int := (L.drop a.toNat).take (b - a).toNat
def prcF (S : q_F) (L : List Int) (i s : Int) : Nat → Int → Int
  | 0, _ => S 35 i
  | m + 1, r => if evV (gE S i s) (sl L (S 107 r) (S 106 (r + 1))) = 1 then max 0 (min 999 (evV (gE S i s) (sl L (S 106 r) (S 107 r)))) else prcF S L i s m (r + 1)
def prc (S : q_F) (L : List Int) (i s : Int) : Int := prcF S L i s (S 1 5).toNat 0
section PRC
variable {D : q_D} {f f' f'' S : q_F} {A : q_As} {g h : Int} {L : List Int}
theorem gE_bd (hY : pY S) {i s : Int} (hi : 0 ≤ i ∧ i < S 1 2) (hs : 0 ≤ s ∧ s < S 1 4) : eB (gE S i s) := fun c => by
  have h1 := (hY.2.2.1 i hi.1 hi.2).1
  have h2 := hY.2.1 s hs.1 hs.2
  have h3 := pss_rg hY hi hs
  have h4 := unl_rg (i := i) (s := s) hY.1
  unfold gE
  split
  · constructor <;> omega
  · split
    · constructor <;> omega
    · split
      · constructor <;> omega
      · split
        · constructor <;> omega
        · split
          · constructor <;> omega
          · split
            · constructor <;> omega
            · constructor <;> omega
theorem sl_mid {a c z : List Int} {n m : Int} (hn : n = a.length) (hm : m = (a.length : Int) + c.length) : sl (a ++ (c ++ z)) n m = c := by
  unfold sl
  rw [show n.toNat = a.length by omega, show (m - n).toNat = c.length by omega, List.drop_left, List.take_left]
theorem xRu.at (hX : xRu S L) {E : Int → Int} (hE : eB E) {r : Int} (r0 : 0 ≤ r) (r1 : r < S 1 5) : ∃ a c1 c2 z v1 v2, L = a ++ (c1 ++ (c2 ++ z)) ∧ S 106 r = a.length ∧ S 107 r = (a.length : Int) + c1.length ∧ S 106 (r + 1) = (a.length : Int) + c1.length + c2.length ∧ bd6 v1 ∧ is01 v2 ∧ ev E c1 [] = some [v1] ∧ ev E c2 [] = some [v2] ∧ evV E (sl L (S 106 r) (S 107 r)) = v1 ∧ evV E (sl L (S 107 r) (S 106 (r + 1))) = v2 := by
  obtain ⟨a, c1, c2, z, h1, h2, h3, h4, h5, h6⟩ := hX.1 r r0 r1
  obtain ⟨v1, p1, e1⟩ := h5 E [] hE (by decide)
  obtain ⟨v2, p2, e2⟩ := h6 E [] hE (by decide)
  refine ⟨a, c1, c2, z, v1, v2, h1, h2, h3, h4, p1, p2, e1, e2, ?_, ?_⟩
  · have : sl L (S 106 r) (S 107 r) = c1 := by rw [h1]; exact sl_mid h2 h3
    rw [this]; unfold evV; rw [e1]
  · have : sl L (S 107 r) (S 106 (r + 1)) = c2 := by
      rw [h1, ← List.append_assoc]
      exact sl_mid (by rw [List.length_append]; push_cast; exact h3) (by rw [List.length_append]; push_cast; exact h4)
    rw [this]; unfold evV; rw [e2]
theorem prcF_rg (hY : pY S) (hX : xRu S L) {i s : Int} (hi : 0 ≤ i ∧ i < S 1 2) : ∀ (m : Nat) (r : Int), 0 ≤ prcF S L i s m r ∧ prcF S L i s m r ≤ 999 := by
  intro m
  induction m with
  | zero => intro r; have h1 := (hY.2.2.1 i hi.1 hi.2).1; show 0 ≤ S 35 i ∧ S 35 i ≤ 999; omega
  | succ m ih =>
    intro r
    unfold prcF
    split
    · omega
    · exact ih _
/-- what changes while a price is reckoned -/
def pK (f f' : q_F) : Prop := ∀ j k, ¬ j = 8 → ¬ j = 9 → ¬ (j = 4 ∧ k = 7) → f' j k = f j k
theorem kK.p (h : kK f f') : pK f f' := fun j k _ b c => h j k b c
theorem pK.tr (h : pK f f') (h2 : pK f' f'') : pK f f'' := fun j k a b c => by rw [h2 j k a b c]; exact h j k a b c
theorem ok_priceOf (hh : q_G h) (hG : gv h f S) (hY : pY S) (hX : xRu S L) (hl : (L.length : Int) ≤ 1600) (hcd : ∀ k : Nat, k < L.length → f 5 k = ccd (L.getD k 0)) (h6 : ∀ k, f 6 k = S 106 k) (h7 : ∀ k, f 7 k = S 107 k) {i s : Int} (hi : 0 ≤ i ∧ i < S 1 2) (hs : 0 ≤ s ∧ s < S 1 4) (hps : f (h + 71 + i) s = pss S i s) : OkI D m_ru_priceOf [vr D 4, vr D h, vi i, vi s] (Zg g h) f (fun x f' => x = prc S L i s ∧ pK f f') := by
  have hg2 := q_G51 hh
  have hW := hY.1
  have b2 := hW.2.2.1
  have b4 := hW.2.2.2.2.1
  have b5 := hW.2.2.2.2.2.1
  have hE := gE_bd hY hi hs
  have fe := hG.fe i
  have hfe := (hY.2.2.1 i hi.1 hi.2).1
  have s2 := hG.sg (s := s) (by omega) 2
  have s3 := hG.sg (s := s) (by omega) 3
  have s4 := hG.sg (s := s) (by omega) 4
  refine OkI_of (L0 := [vr D 4, vr D h, vi i, vi s, vu]) mi_ru_priceOf rfl rfl (Nat.le_of_ble_eq_true rfl) (fun C hR => ?_)
  have loop : ∀ (m : Nat) (r : Int) (F : q_F), 0 ≤ r → r + m = S 1 5 → knS F (gE S i s) → pK f F → prcF S L i s m r = prc S L i s → V D C m_ru_priceOf 96 [vr D 4, vr D h, vi i, vi s, vi r] [] (Zg g h) F := by
    intro m
    induction m with
    | zero =>
      intro r F r0 rm hkn hk hr
      have c5 : F (h + 1) 5 = S 1 5 := by rw [hk _ _ (by omega) (by omega) (by omega)]; exact hG.ct 5
      have e1 : F (h + 35) i = S 35 i := by rw [hk _ _ (by omega) (by omega) (by omega)]; exact fe
      refine V_iload_4 d_ru_priceOf_96 ?_
      refine V_aload_1 d_ru_priceOf_98 ?_
      refine V_getR d_ru_priceOf_99 fl_ru_37 (is_gd hh) (r_gd_counts hh) ?_
      refine V_iconst 5 d_ru_priceOf_102 ?_
      refine V_iald d_ru_priceOf_103 (is_gd_counts hh) (by omega) (by omega) ?_
      rw [c5]
      refine V_icmp_ge 165 d_ru_priceOf_104 (by decide) (by omega) (by omega) (fun c104 => ?_) (fun c104 => by omega)
      refine V_aload_1 d_ru_priceOf_165 ?_
      refine V_getR d_ru_priceOf_166 fl_ru_119 (is_gd hh) (r_gd_fees hh) ?_
      refine V_iload_2 d_ru_priceOf_169 ?_
      refine V_iald d_ru_priceOf_170 (is_gd_fees hh) (by omega) (by omega) ?_
      rw [e1]
      refine V_ireturn d_ru_priceOf_171 (hR _ _ ?_)
      exact ⟨hr, hk⟩
    | succ m ih =>
      intro r F r0 rm hkn hk hr
      have c5 : F (h + 1) 5 = S 1 5 := by rw [hk _ _ (by omega) (by omega) (by omega)]; exact hG.ct 5
      obtain ⟨a, c1, c2, z, v1, v2, L1, e6, e7, e8, p1, p2, w1, w2, q1, q2⟩ := hX.at hE r0 (by omega)
      have f6 : F 6 r = S 106 r := by rw [hk _ _ (by omega) (by omega) (by omega)]; exact h6 r
      have f6b : F 6 (r + 1) = S 106 (r + 1) := by rw [hk _ _ (by omega) (by omega) (by omega)]; exact h6 _
      have f7 : F 7 r = S 107 r := by rw [hk _ _ (by omega) (by omega) (by omega)]; exact h7 r
      have hcF : ∀ k : Nat, k < L.length → F 5 k = ccd (L.getD k 0) := fun k hk1 => by rw [hk _ _ (by omega) (by omega) (by omega)]; exact hcd k hk1
      unfold prcF at hr
      rw [q1, q2] at hr
      have okT : OkI D m_ru_reckon [vr D 4, vi (S 107 r), vi (S 106 (r + 1))] (Zg g h) F (fun x f' => x = v2 ∧ kK F f') := ok_reckon (a := a ++ c1) (c0 := c2) (z := z) (by rw [L1, List.append_assoc]) hl hcF hkn hE w2 (by rw [List.length_append]; push_cast; exact e7) (by rw [List.length_append]; push_cast; exact e8)
      by_cases hv : v2 = 1
      · rw [if_pos hv] at hr
        refine V_iload_4 d_ru_priceOf_96 ?_
        refine V_aload_1 d_ru_priceOf_98 ?_
        refine V_getR d_ru_priceOf_99 fl_ru_37 (is_gd hh) (r_gd_counts hh) ?_
        refine V_iconst 5 d_ru_priceOf_102 ?_
        refine V_iald d_ru_priceOf_103 (is_gd_counts hh) (by omega) (by omega) ?_
        rw [c5]
        refine V_icmp_ge 165 d_ru_priceOf_104 (by decide) (by omega) (by omega) (fun c104 => by omega) (fun c104 => ?_)
        refine V_aload_0 d_ru_priceOf_107 ?_
        refine V_aload_0 d_ru_priceOf_108 ?_
        refine V_getR d_ru_priceOf_109 fl_ru_18 is_ru r_ru_testStart ?_
        refine V_iload_4 d_ru_priceOf_112 ?_
        refine V_iald d_ru_priceOf_114 is_ru_testStart (by omega) (by omega) ?_
        rw [f7]
        refine V_aload_0 d_ru_priceOf_115 ?_
        refine V_getR d_ru_priceOf_116 fl_ru_15 is_ru r_ru_sumStart ?_
        refine V_iload_4 d_ru_priceOf_119 ?_
        refine V_iconst 1 d_ru_priceOf_121 ?_
        refine V_iadd d_ru_priceOf_122 ?_
        refine V_iald d_ru_priceOf_123 is_ru_sumStart (by omega) (by omega) ?_
        rw [f6b]
        refine V_cvI2 d_ru_priceOf_124 ml_ru_132 mv_ru_reckon (by decide) (Nat.le_of_ble_eq_true rfl) is_ru (okT) ?_
        rintro x F2 ⟨rfl, k2⟩
        have f62 : F2 6 r = S 106 r := by rw [k2 _ _ (by omega) (by omega)]; exact f6
        have f72 : F2 7 r = S 107 r := by rw [k2 _ _ (by omega) (by omega)]; exact f7
        refine V_if_eq 159 d_ru_priceOf_127 (by decide) (by omega) (fun c127 => by omega) (fun c127 => ?_)
        refine V_iconst 0 d_ru_priceOf_130 ?_
        refine V_sipush 999 d_ru_priceOf_131 (by decide) ?_
        refine V_aload_0 d_ru_priceOf_134 ?_
        refine V_aload_0 d_ru_priceOf_135 ?_
        refine V_getR d_ru_priceOf_136 fl_ru_15 is_ru r_ru_sumStart ?_
        refine V_iload_4 d_ru_priceOf_139 ?_
        refine V_iald d_ru_priceOf_141 is_ru_sumStart (by omega) (by omega) ?_
        rw [f62]
        refine V_aload_0 d_ru_priceOf_142 ?_
        refine V_getR d_ru_priceOf_143 fl_ru_18 is_ru r_ru_testStart ?_
        refine V_iload_4 d_ru_priceOf_146 ?_
        refine V_iald d_ru_priceOf_148 is_ru_testStart (by omega) (by omega) ?_
        rw [f72]
        refine V_cvI2 d_ru_priceOf_149 ml_ru_132 mv_ru_reckon (by decide) (Nat.le_of_ble_eq_true rfl) is_ru (ok_reckon (a := a) (c0 := c1) (z := c2 ++ z) L1 hl (fun k hk1 => by rw [k2 _ _ (by omega) (by omega)]; exact hcF k hk1) (hkn.fr k2) hE w1 e6 e7) ?_
        rintro y F3 ⟨rfl, k3⟩
        refine V_csI2 d_ru_priceOf_152 ml_ru_135 ms_jm_min (by decide) (Nat.le_of_ble_eq_true rfl) (ok_min (by omega) (by omega)) ?_
        rintro _ f2 ⟨rfl, e2⟩
        rw [e2]; clear e2 f2
        refine V_csI2 d_ru_priceOf_155 ml_ru_140 ms_jm_max (by decide) (Nat.le_of_ble_eq_true rfl) (ok_max (by omega) (by omega)) ?_
        rintro _ f2 ⟨rfl, e2⟩
        rw [e2]; clear e2 f2
        refine V_ireturn d_ru_priceOf_158 (hR _ _ ?_)
        exact ⟨hr, (hk.tr k2.p).tr k3.p⟩
      · rw [if_neg hv] at hr
        refine V_iload_4 d_ru_priceOf_96 ?_
        refine V_aload_1 d_ru_priceOf_98 ?_
        refine V_getR d_ru_priceOf_99 fl_ru_37 (is_gd hh) (r_gd_counts hh) ?_
        refine V_iconst 5 d_ru_priceOf_102 ?_
        refine V_iald d_ru_priceOf_103 (is_gd_counts hh) (by omega) (by omega) ?_
        rw [c5]
        refine V_icmp_ge 165 d_ru_priceOf_104 (by decide) (by omega) (by omega) (fun c104 => by omega) (fun c104 => ?_)
        refine V_aload_0 d_ru_priceOf_107 ?_
        refine V_aload_0 d_ru_priceOf_108 ?_
        refine V_getR d_ru_priceOf_109 fl_ru_18 is_ru r_ru_testStart ?_
        refine V_iload_4 d_ru_priceOf_112 ?_
        refine V_iald d_ru_priceOf_114 is_ru_testStart (by omega) (by omega) ?_
        rw [f7]
        refine V_aload_0 d_ru_priceOf_115 ?_
        refine V_getR d_ru_priceOf_116 fl_ru_15 is_ru r_ru_sumStart ?_
        refine V_iload_4 d_ru_priceOf_119 ?_
        refine V_iconst 1 d_ru_priceOf_121 ?_
        refine V_iadd d_ru_priceOf_122 ?_
        refine V_iald d_ru_priceOf_123 is_ru_sumStart (by omega) (by omega) ?_
        rw [f6b]
        refine V_cvI2 d_ru_priceOf_124 ml_ru_132 mv_ru_reckon (by decide) (Nat.le_of_ble_eq_true rfl) is_ru (okT) ?_
        rintro x F2 ⟨rfl, k2⟩
        refine V_if_eq 159 d_ru_priceOf_127 (by decide) (by omega) (fun c127 => ?_) (fun c127 => by omega)
        refine V_iinc_4 d_ru_priceOf_159 rfl ?_
        refine V_goto 96 d_ru_priceOf_162 (by decide) ?_
        exact ih _ F2 (by omega) (by omega) (hkn.fr k2) (hk.tr k2.p) hr
  have up8 : ∀ (F : q_F) (k x : Int), pK f F → pK f (q_up F 8 k x) := fun F k x hk j k' a b c => by rw [q_up_at a]; exact hk j k' a b c
  have pk0 : pK f f := fun _ _ _ _ _ => rfl
  have G1 : gv h (q_up (q_up (q_up (q_up f 8 3 (S 35 i)) 8 9 (S (46 + s) 2)) 8 10 (S (46 + s) 3)) 8 20 (S (46 + s) 4)) S := hG.fr (fun j k _ _ h3 => by rw [q_up_at (by omega), q_up_at (by omega), q_up_at (by omega), q_up_at (by omega)])
  refine V_aload_0 d_ru_priceOf_0 ?_
  refine V_getR d_ru_priceOf_1 fl_ru_23 is_ru r_ru_known ?_
  refine V_iconst 3 d_ru_priceOf_4 ?_
  refine V_aload_1 d_ru_priceOf_5 ?_
  refine V_getR d_ru_priceOf_6 fl_ru_119 (is_gd hh) (r_gd_fees hh) ?_
  refine V_iload_2 d_ru_priceOf_9 ?_
  refine V_iald d_ru_priceOf_10 (is_gd_fees hh) (by omega) (by omega) ?_
  rw [fe]
  refine V_iast d_ru_priceOf_11 is_ru_known (by omega) (by omega) ?_
  refine V_aload_0 d_ru_priceOf_12 ?_
  refine V_getR d_ru_priceOf_13 fl_ru_23 is_ru r_ru_known ?_
  refine V_bipush 9 d_ru_priceOf_16 (by decide) ?_
  refine V_aload_1 d_ru_priceOf_18 ?_
  refine V_getR d_ru_priceOf_19 fl_ru_122 (is_gd hh) (r_gd_sightings hh) ?_
  refine V_iload_3 d_ru_priceOf_22 ?_
  refine V_aald d_ru_priceOf_23 (is_gd_sightings hh) (by omega) (by omega) (r_gd_sightingsrow hh (by omega)) ?_
  refine V_iconst 2 d_ru_priceOf_24 ?_
  refine V_iald d_ru_priceOf_25 (is_gd_sightings_row hh (by omega)) (by omega) (by omega) ?_
  rw [q_up_at (by omega), s2]
  refine V_iast d_ru_priceOf_26 is_ru_known (by omega) (by omega) ?_
  refine V_aload_0 d_ru_priceOf_27 ?_
  refine V_getR d_ru_priceOf_28 fl_ru_23 is_ru r_ru_known ?_
  refine V_bipush 10 d_ru_priceOf_31 (by decide) ?_
  refine V_aload_1 d_ru_priceOf_33 ?_
  refine V_getR d_ru_priceOf_34 fl_ru_122 (is_gd hh) (r_gd_sightings hh) ?_
  refine V_iload_3 d_ru_priceOf_37 ?_
  refine V_aald d_ru_priceOf_38 (is_gd_sightings hh) (by omega) (by omega) (r_gd_sightingsrow hh (by omega)) ?_
  refine V_iconst 3 d_ru_priceOf_39 ?_
  refine V_iald d_ru_priceOf_40 (is_gd_sightings_row hh (by omega)) (by omega) (by omega) ?_
  rw [q_up_at (by omega), q_up_at (by omega), s3]
  refine V_iast d_ru_priceOf_41 is_ru_known (by omega) (by omega) ?_
  refine V_aload_0 d_ru_priceOf_42 ?_
  refine V_getR d_ru_priceOf_43 fl_ru_23 is_ru r_ru_known ?_
  refine V_bipush 20 d_ru_priceOf_46 (by decide) ?_
  refine V_aload_1 d_ru_priceOf_48 ?_
  refine V_getR d_ru_priceOf_49 fl_ru_122 (is_gd hh) (r_gd_sightings hh) ?_
  refine V_iload_3 d_ru_priceOf_52 ?_
  refine V_aald d_ru_priceOf_53 (is_gd_sightings hh) (by omega) (by omega) (r_gd_sightingsrow hh (by omega)) ?_
  refine V_iconst 4 d_ru_priceOf_54 ?_
  refine V_iald d_ru_priceOf_55 (is_gd_sightings_row hh (by omega)) (by omega) (by omega) ?_
  rw [q_up_at (by omega), q_up_at (by omega), q_up_at (by omega), s4]
  refine V_iast d_ru_priceOf_56 is_ru_known (by omega) (by omega) ?_
  refine V_aload_0 d_ru_priceOf_57 ?_
  refine V_getR d_ru_priceOf_58 fl_ru_23 is_ru r_ru_known ?_
  refine V_bipush 21 d_ru_priceOf_61 (by decide) ?_
  refine V_aload_1 d_ru_priceOf_63 ?_
  refine V_iload_2 d_ru_priceOf_64 ?_
  refine V_iload_3 d_ru_priceOf_65 ?_
  refine V_cvI2 d_ru_priceOf_66 ml_ru_125 mv_gd_unlikeTraits (by decide) (Nat.le_of_ble_eq_true rfl) (is_gd hh) (ok_unlike hh G1 hY hi hs) ?_
  rintro _ f2 ⟨rfl, e2⟩
  rw [e2]; clear e2 f2
  refine V_iast d_ru_priceOf_69 is_ru_known (by omega) (by omega) ?_
  refine V_aload_0 d_ru_priceOf_70 ?_
  refine V_getR d_ru_priceOf_71 fl_ru_23 is_ru r_ru_known ?_
  refine V_bipush 22 d_ru_priceOf_74 (by decide) ?_
  refine V_aload_1 d_ru_priceOf_76 ?_
  refine V_getR d_ru_priceOf_77 fl_ru_129 (is_gd hh) (r_gd_passes hh) ?_
  refine V_iload_2 d_ru_priceOf_80 ?_
  refine V_aald d_ru_priceOf_81 (is_gd_passes hh) (by omega) (by omega) (r_gd_passesrow hh (by omega)) ?_
  refine V_iload_3 d_ru_priceOf_82 ?_
  refine V_iald d_ru_priceOf_83 (is_gd_passes_row hh (by omega)) (by omega) (by omega) ?_
  rw [q_up_at (by omega), q_up_at (by omega), q_up_at (by omega), q_up_at (by omega), q_up_at (by omega), hps]
  refine V_iast d_ru_priceOf_84 is_ru_known (by omega) (by omega) ?_
  refine V_aload_0 d_ru_priceOf_85 ?_
  refine V_getR d_ru_priceOf_86 fl_ru_23 is_ru r_ru_known ?_
  refine V_bipush 19 d_ru_priceOf_89 (by decide) ?_
  refine V_iconst 1 d_ru_priceOf_91 ?_
  refine V_iast d_ru_priceOf_92 is_ru_known (by omega) (by omega) ?_
  refine V_iconst 0 d_ru_priceOf_93 ?_
  refine V_istore_4 d_ru_priceOf_94 rfl ?_
  refine loop (S 1 5).toNat _ _ (by decide) (by omega) ?_ (up8 _ _ _ (up8 _ _ _ (up8 _ _ _ (up8 _ _ _ (up8 _ _ _ (up8 _ _ _ (up8 _ _ _ pk0))))))) rfl
  refine ⟨?_, ?_, ?_, ?_, ?_, ?_, ?_⟩
  · rw [q_up_ne (Or.inr (by decide)), q_up_ne (Or.inr (by decide)), q_up_ne (Or.inr (by decide)), q_up_ne (Or.inr (by decide)), q_up_ne (Or.inr (by decide)), q_up_ne (Or.inr (by decide)), q_up_eq]; rfl
  · rw [q_up_ne (Or.inr (by decide)), q_up_ne (Or.inr (by decide)), q_up_ne (Or.inr (by decide)), q_up_ne (Or.inr (by decide)), q_up_ne (Or.inr (by decide)), q_up_eq]; rfl
  · rw [q_up_ne (Or.inr (by decide)), q_up_ne (Or.inr (by decide)), q_up_ne (Or.inr (by decide)), q_up_ne (Or.inr (by decide)), q_up_eq]; rfl
  · rw [q_up_ne (Or.inr (by decide)), q_up_ne (Or.inr (by decide)), q_up_ne (Or.inr (by decide)), q_up_eq]; rfl
  · rw [q_up_ne (Or.inr (by decide)), q_up_ne (Or.inr (by decide)), q_up_eq]; rfl
  · rw [q_up_ne (Or.inr (by decide)), q_up_eq]; rfl
  · rw [q_up_eq]
theorem ok_setPrices (hh : q_G h) (hG : gv h f S) (hY : pY S) (hX : xRu S L) (hl : (L.length : Int) ≤ 1600) (hcd : ∀ k : Nat, k < L.length → f 5 k = ccd (L.getD k 0)) (h6 : ∀ k, f 6 k = S 106 k) (h7 : ∀ k, f 7 k = S 107 k) (hps : ∀ i s, 0 ≤ i → i < S 1 2 → 0 ≤ s → s < S 1 4 → f (h + 71 + i) s = pss S i s) : OkV D m_ru_setPrices [vr D 4, vr D h] (Zg g h) f (fun f' => (∀ i s, 0 ≤ i → i < S 1 2 → 0 ≤ s → s < S 1 4 → f' (h + 77 + i) s = prc S L i s) ∧ ∀ j k, ¬ (h + 77 ≤ j ∧ j < h + 82) → ¬ (j = 8 ∨ j = 9) → ¬ (j = 4 ∧ k = 7) → f' j k = f j k) := by
  have hg2 := q_G51 hh
  have hW := hY.1
  have b2 := hW.2.2.1
  have b4 := hW.2.2.2.2.1
  refine OkV_of (L0 := [vr D 4, vr D h, vu, vu]) mi_ru_setPrices rfl rfl (Nat.le_of_ble_eq_true rfl) (fun C hR => ?_)
  have inner : ∀ (m : Nat) (i s : Int) (F : q_F), s + m = S 1 4 → 0 ≤ s → 0 ≤ i → i < S 1 2 → (∀ j k, ¬ (h + 77 ≤ j ∧ j < h + 82) → ¬ (j = 8 ∨ j = 9) → ¬ (j = 4 ∧ k = 7) → F j k = f j k) → (∀ a b, 0 ≤ a → a < S 1 2 → 0 ≤ b → b < S 1 4 → a < i ∨ (a = i ∧ b < s) → F (h + 77 + a) b = prc S L a b) → (∀ F' : q_F, (∀ j k, ¬ (h + 77 ≤ j ∧ j < h + 82) → ¬ (j = 8 ∨ j = 9) → ¬ (j = 4 ∧ k = 7) → F' j k = f j k) → (∀ a b, 0 ≤ a → a < S 1 2 → 0 ≤ b → b < S 1 4 → a < i + 1 → F' (h + 77 + a) b = prc S L a b) → V D C m_ru_setPrices 2 [vr D 4, vr D h, vi (i + 1), vi (S 1 4)] [] (Zg g h) F') → V D C m_ru_setPrices 14 [vr D 4, vr D h, vi i, vi s] [] (Zg g h) F := by
    intro m
    induction m with
    | zero =>
      intro i s F sm s0 i0 i1 hfr hP K
      have c4 : F (h + 1) 4 = S 1 4 := by rw [hfr _ _ (by omega) (by omega) (by omega)]; exact hG.ct 4
      refine V_iload_3 d_ru_setPrices_14 ?_
      refine V_aload_1 d_ru_setPrices_15 ?_
      refine V_getR d_ru_setPrices_16 fl_ru_37 (is_gd hh) (r_gd_counts hh) ?_
      refine V_iconst 4 d_ru_setPrices_19 ?_
      refine V_iald d_ru_setPrices_20 (is_gd_counts hh) (by omega) (by omega) ?_
      rw [c4]
      refine V_icmp_ge 45 d_ru_setPrices_21 (by decide) (by omega) (by omega) (fun c21 => ?_) (fun c21 => by omega)
      refine V_iinc_2 d_ru_setPrices_45 rfl ?_
      refine V_goto 2 d_ru_setPrices_48 (by decide) ?_
      rw [show s = S 1 4 by omega]
      exact K F hfr (fun a b a0 a1 b0 b1 h1 => hP a b a0 a1 b0 b1 (by omega))
    | succ m ih =>
      intro i s F sm s0 i0 i1 hfr hP K
      have c4 : F (h + 1) 4 = S 1 4 := by rw [hfr _ _ (by omega) (by omega) (by omega)]; exact hG.ct 4
      have GF : gv h F S := hG.fr (fun j k _ h2 h3 => hfr j k (by omega) (by omega) (by omega))
      refine V_iload_3 d_ru_setPrices_14 ?_
      refine V_aload_1 d_ru_setPrices_15 ?_
      refine V_getR d_ru_setPrices_16 fl_ru_37 (is_gd hh) (r_gd_counts hh) ?_
      refine V_iconst 4 d_ru_setPrices_19 ?_
      refine V_iald d_ru_setPrices_20 (is_gd_counts hh) (by omega) (by omega) ?_
      rw [c4]
      refine V_icmp_ge 45 d_ru_setPrices_21 (by decide) (by omega) (by omega) (fun c21 => by omega) (fun c21 => ?_)
      refine V_aload_1 d_ru_setPrices_24 ?_
      refine V_getR d_ru_setPrices_25 fl_ru_111 (is_gd hh) (r_gd_prices hh) ?_
      refine V_iload_2 d_ru_setPrices_28 ?_
      refine V_aald d_ru_setPrices_29 (is_gd_prices hh) (by omega) (by omega) (r_gd_pricesrow hh (by omega)) ?_
      refine V_iload_3 d_ru_setPrices_30 ?_
      refine V_aload_0 d_ru_setPrices_31 ?_
      refine V_aload_1 d_ru_setPrices_32 ?_
      refine V_iload_2 d_ru_setPrices_33 ?_
      refine V_iload_3 d_ru_setPrices_34 ?_
      refine V_cvI3 d_ru_setPrices_35 ml_ru_115 mv_ru_priceOf (by decide) (Nat.le_of_ble_eq_true rfl) is_ru (ok_priceOf hh GF hY hX hl (fun k hk => by rw [hfr _ _ (by omega) (by omega) (by omega)]; exact hcd k hk) (fun k => by rw [hfr _ _ (by omega) (by omega) (by omega)]; exact h6 k) (fun k => by rw [hfr _ _ (by omega) (by omega) (by omega)]; exact h7 k) ⟨i0, i1⟩ (by omega) (by rw [hfr _ _ (by omega) (by omega) (by omega)]; exact hps i s i0 i1 s0 (by omega))) ?_
      rintro x F2 ⟨rfl, k2⟩
      refine V_iast d_ru_setPrices_38 (is_gd_prices_row hh (by omega)) (by omega) (by omega) ?_
      refine V_iinc_3 d_ru_setPrices_39 rfl ?_
      refine V_goto 14 d_ru_setPrices_42 (by decide) ?_
      refine ih i _ _ (by omega) (by omega) i0 i1 (fun j k a b c => ?_) (fun a b a0 a1 b0 b1 ho => ?_) K
      · rw [q_up_ne (by omega), k2 j k (by omega) (by omega) c]; exact hfr j k a b c
      · by_cases e : a = i ∧ b = s
        · rw [e.1, e.2, q_up_eq]
        · rw [q_up_ne (by omega), k2 _ _ (by omega) (by omega) (by omega)]; exact hP a b a0 a1 b0 b1 (by omega)
  have outer : ∀ (m : Nat) (i : Int) (F : q_F) (u : Value), i + m = S 1 2 → 0 ≤ i → (∀ j k, ¬ (h + 77 ≤ j ∧ j < h + 82) → ¬ (j = 8 ∨ j = 9) → ¬ (j = 4 ∧ k = 7) → F j k = f j k) → (∀ a b, 0 ≤ a → a < S 1 2 → 0 ≤ b → b < S 1 4 → a < i → F (h + 77 + a) b = prc S L a b) → V D C m_ru_setPrices 2 [vr D 4, vr D h, vi i, u] [] (Zg g h) F := by
    intro m
    induction m with
    | zero =>
      intro i F u im i0 hfr hP
      have c2 : F (h + 1) 2 = S 1 2 := by rw [hfr _ _ (by omega) (by omega) (by omega)]; exact hG.ct 2
      refine V_iload_2 d_ru_setPrices_2 ?_
      refine V_aload_1 d_ru_setPrices_3 ?_
      refine V_getR d_ru_setPrices_4 fl_ru_37 (is_gd hh) (r_gd_counts hh) ?_
      refine V_iconst 2 d_ru_setPrices_7 ?_
      refine V_iald d_ru_setPrices_8 (is_gd_counts hh) (by omega) (by omega) ?_
      rw [c2]
      refine V_icmp_ge 51 d_ru_setPrices_9 (by decide) (by omega) (by omega) (fun c9 => ?_) (fun c9 => by omega)
      refine V_return d_ru_setPrices_51 (hR _ ?_)
      exact ⟨fun a b a0 a1 b0 b1 => hP a b a0 a1 b0 b1 (by omega), hfr⟩
    | succ m ih =>
      intro i F u im i0 hfr hP
      have c2 : F (h + 1) 2 = S 1 2 := by rw [hfr _ _ (by omega) (by omega) (by omega)]; exact hG.ct 2
      refine V_iload_2 d_ru_setPrices_2 ?_
      refine V_aload_1 d_ru_setPrices_3 ?_
      refine V_getR d_ru_setPrices_4 fl_ru_37 (is_gd hh) (r_gd_counts hh) ?_
      refine V_iconst 2 d_ru_setPrices_7 ?_
      refine V_iald d_ru_setPrices_8 (is_gd_counts hh) (by omega) (by omega) ?_
      rw [c2]
      refine V_icmp_ge 51 d_ru_setPrices_9 (by decide) (by omega) (by omega) (fun c9 => by omega) (fun c9 => ?_)
      refine V_iconst 0 d_ru_setPrices_12 ?_
      refine V_istore_3 d_ru_setPrices_13 rfl ?_
      exact inner (S 1 4).toNat i _ F (by omega) (by decide) i0 (by omega) hfr (fun a b a0 a1 b0 b1 ho => hP a b a0 a1 b0 b1 (by omega)) (fun F' h1 h2 => ih (i + 1) F' _ (by omega) (by omega) h1 h2)
  refine V_iconst 0 d_ru_setPrices_0 ?_
  refine V_istore_2 d_ru_setPrices_1 rfl ?_
  exact outer (S 1 2).toNat _ f _ (by omega) (by decide) (fun _ _ _ _ _ => rfl) (fun a b a0 a1 b0 b1 ho => by omega)
end PRC
