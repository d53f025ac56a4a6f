/-! the class's tape: words and names -/
def scn (T : Int → Int) (p z : Int) : List Int → Int → Int → Int
  | [], _, _ => -1
  | c :: cs, w, k => if c = 32 then (if k = z then w else scn T p z cs (w + 1) p) else scn T p z cs w (if ¬ k = -1 ∧ k < z ∧ T k = c then k + 1 else -1)
def wch : List Int := wds.flatMap (fun u => u ++ [32])
def wE (T : Int → Int) (N p e : Int) : Int := if p = e then p else le T N p
section TP2
variable {D : q_D} {f f' : q_F} {A : q_As} {g h : Int} {T : Int → Int} {N p e : Int}
theorem scn_word {z : Int} (hp : 0 ≤ p) (hz : p ≤ z) (rest : List Int) (w : Int) : ∀ (u : List Int) (k : Int), (∀ c ∈ u, ¬ c = 32) → (k = -1 ∨ (p ≤ k ∧ k ≤ z)) → scn T p z (u ++ 32 :: rest) w k = if ¬ k = -1 ∧ sg T (z - k).toNat k = u then w else scn T p z rest (w + 1) p := by
  intro u
  induction u with
  | nil =>
    intro k _ hk
    rw [List.nil_append, scn, if_pos rfl]
    by_cases e : k = z
    · rw [if_pos e, if_pos ⟨by omega, by rw [show (z - k).toNat = 0 by omega]; rfl⟩]
    · rw [if_neg e, if_neg]
      rintro ⟨h1, h2⟩
      have := congrArg List.length h2
      rw [sg_len, List.length_nil] at this
      omega
  | cons c u ih =>
    intro k hu hk
    rw [List.cons_append, scn, if_neg (hu c (List.mem_cons_self ..))]
    by_cases hc : ¬ k = -1 ∧ k < z ∧ T k = c
    · rw [if_pos hc, ih (k + 1) (fun d hd => hu d (List.mem_cons_of_mem _ hd)) (by omega)]
      have e1 : sg T (z - k).toNat k = T k :: sg T (z - (k + 1)).toNat (k + 1) := by
        rw [show (z - k).toNat = (z - (k + 1)).toNat + 1 by omega, sg]
      rw [e1, hc.2.2]
      by_cases e2 : sg T (z - (k + 1)).toNat (k + 1) = u
      · rw [if_pos ⟨by omega, e2⟩, if_pos ⟨hc.1, by rw [e2]⟩]
      · rw [if_neg (fun h => e2 h.2), if_neg (fun h => e2 (List.cons.inj h.2).2)]
    · rw [if_neg hc, ih (-1) (fun d hd => hu d (List.mem_cons_of_mem _ hd)) (Or.inl rfl), if_neg (fun h => h.1 rfl), if_neg]
      rintro ⟨h1, h2⟩
      by_cases e : k = z
      · have := congrArg List.length h2
        rw [sg_len, List.length_cons] at this
        omega
      · have e1 : sg T (z - k).toNat k = T k :: sg T (z - (k + 1)).toNat (k + 1) := by
          rw [show (z - k).toNat = (z - (k + 1)).toNat + 1 by omega, sg]
        rw [e1] at h2
        exact hc ⟨h1, by omega, (List.cons.inj h2).1⟩
theorem scn_all {z : Int} (hp : 0 ≤ p) (hz : p ≤ z) : ∀ (ws : List (List Int)) (w : Int), (∀ u ∈ ws, ∀ c ∈ u, ¬ c = 32) → scn T p z (ws.flatMap (fun u => u ++ [32])) w p = idx (sg T (z - p).toNat p) ws w := by
  intro ws
  induction ws with
  | nil => intro w _; rfl
  | cons u us ih =>
    intro w hu
    rw [List.flatMap_cons, List.append_assoc]
    show scn T p z (u ++ 32 :: us.flatMap (fun u => u ++ [32])) w p = _
    rw [scn_word hp hz _ w u p (hu u (List.mem_cons_self ..)) (by omega), idx]
    by_cases e : sg T (z - p).toNat p = u
    · rw [if_pos ⟨by omega, e⟩, if_pos e]
    · rw [if_neg (fun h => e h.2), if_neg e, ih (w + 1) (fun v hv => hu v (List.mem_cons_of_mem _ hv))]
theorem wch_at : ∀ k : Nat, k < 125 → q_wb.getD k 0 = Int32.ofInt (wch.getD k 0) ∧ 0 ≤ wch.getD k 0 ∧ wch.getD k 0 < 256 := by decide +kernel
theorem wch_len : wch.length = 125 := by decide +kernel
theorem wds_no : ∀ u ∈ wds, ∀ c ∈ u, ¬ c = 32 := by decide +kernel
theorem wch_cons {k : Nat} (hk : k < 125) : wch.drop k = wch.getD k 0 :: wch.drop (k + 1) := by
  rw [List.drop_eq_getElem_cons (by rw [wch_len]; exact hk), List.getD_eq_getElem?_getD, List.getElem?_eq_getElem (by rw [wch_len]; exact hk)]; rfl
theorem ok_wordHere (hT : tpS f T N p e) : OkI D m_tp_wordHere [vr D 1] (Zg g h) f (fun x f' => x = wd T N p e ∧ f' = q_up (q_up f 1 2 p) 1 7 (wE T N p e)) := by
  have hp := hT.pr
  have hle := le_rg (T := T) hp.2.1
  have hT' := hT
  obtain ⟨⟨hN, hB⟩, h1, h2, h3, h4, h5, h6⟩ := hT'
  have ez : p ≤ wE T N p e ∧ wE T N p e ≤ N := by unfold wE; split <;> omega
  have g2 : ∀ x, (q_up (q_up f 1 2 p) 1 7 x) 1 2 = p := fun x => by rw [q_up_ne (Or.inr (by decide)), q_up_eq]
  have g1 : ∀ x, (q_up (q_up f 1 2 p) 1 7 x) 1 1 = N := fun x => by rw [q_up_ne (Or.inr (by decide)), q_up_ne (Or.inr (by decide))]; exact h1
  have g8 : ∀ x, (q_up (q_up f 1 2 p) 1 7 x) 1 8 = e := fun x => by rw [q_up_ne (Or.inr (by decide)), q_up_ne (Or.inr (by decide))]; exact h5
  have gb : ∀ x k, 0 ≤ k → k < N → (q_up (q_up f 1 2 p) 1 7 x) 2 k = T k := fun x k k0 k1 => by rw [q_up_at (by decide), q_up_at (by decide)]; exact h2 k k0 k1
  refine OkI_of (L0 := [vr D 1, vu, vu, vu, vu]) mi_tp_wordHere rfl rfl (Nat.le_of_ble_eq_true rfl) (fun C hR => ?_)
  have scan : ∀ (m k : Nat) (w like : Int) (u : Value), k + m = 125 → ¬ p = e → p < wE T N p e → scn T p (wE T N p e) (wch.drop k) w like = wd T N p e → 0 ≤ w → w ≤ k → (like = -1 ∨ (p ≤ like ∧ like ≤ wE T N p e)) → V D C m_tp_wordHere 85 [vr D 1, vi w, vi like, vi k, u] [] (Zg g h) (q_up (q_up f 1 2 p) 1 7 (wE T N p e)) := by
    intro m
    induction m with
    | zero =>
      intro k w like u hm he hlt hs w0 w1 hk
      rw [List.drop_eq_nil_of_le (by rw [wch_len]; omega)] at hs
      refine V_iload_3 d_tp_wordHere_85 ?_
      refine V_ldcS d_tp_wordHere_86 rfl ?_
      refine V_callX (As := []) d_tp_wordHere_88 ml_tp_48 mi_js_length mv_js_length ⟨rfl, rfl⟩ (fun U hU => hU.obj) (by decide) rfl (Nat.le_of_ble_eq_true rfl) ok_jslength ?_
      rintro v f2 ⟨x, rfl, rfl, e2⟩
      rw [e2]; clear e2 f2
      refine V_icmp_ge 168 d_tp_wordHere_91 (by decide) (by omega) (by omega) (fun c91 => ?_) (fun c91 => by omega)
      refine V_iconst (-1) d_tp_wordHere_168 ?_
      refine V_ireturn d_tp_wordHere_169 (hR _ _ ?_)
      exact ⟨hs, rfl⟩
    | succ m ih =>
      intro k w like u hm he hlt hs w0 w1 hk
      obtain ⟨c1, c2, c3⟩ := wch_at k (by omega)
      rw [wch_cons (by omega), scn] at hs
      generalize hsg : wch.getD k 0 = c at *
      refine V_iload_3 d_tp_wordHere_85 ?_
      refine V_ldcS d_tp_wordHere_86 rfl ?_
      refine V_callX (As := []) d_tp_wordHere_88 ml_tp_48 mi_js_length mv_js_length ⟨rfl, rfl⟩ (fun U hU => hU.obj) (by decide) rfl (Nat.le_of_ble_eq_true rfl) ok_jslength ?_
      rintro v f2 ⟨x, rfl, rfl, e2⟩
      rw [e2]; clear e2 f2
      refine V_icmp_ge 168 d_tp_wordHere_91 (by decide) (by omega) (by omega) (fun c91 => by omega) (fun c91 => ?_)
      refine V_ldcS d_tp_wordHere_94 rfl ?_
      refine V_iload_3 d_tp_wordHere_96 ?_
      refine V_callX (As := [vi k]) d_tp_wordHere_97 ml_tp_52 mi_js_charAt mv_js_charAt ⟨rfl, rfl⟩ (fun U hU => hU.obj) (by decide) rfl (Nat.le_of_ble_eq_true rfl) (ok_jschar (by omega) c1 ⟨c2, c3⟩) ?_
      rintro v f2 ⟨x, rfl, rfl, e2⟩
      rw [e2]; clear e2 f2
      refine V_istore_4 d_tp_wordHere_100 rfl ?_
      refine V_iload_4 d_tp_wordHere_102 ?_
      refine V_bipush 32 d_tp_wordHere_104 (by decide) ?_
      refine V_icmp_eq 144 d_tp_wordHere_106 (by decide) (by omega) (by omega) (fun c106 => ?_) (fun c106 => ?_)
      · skip
        rw [if_pos c106] at hs
        refine V_iload_2 d_tp_wordHere_144 ?_
        refine V_aload_0 d_tp_wordHere_145 ?_
        refine V_getI d_tp_wordHere_146 fl_tp_39 is_tp ?_
        rw [q_up_eq]
        refine V_icmp_ne 154 d_tp_wordHere_149 (by decide) (by omega) (by omega) (fun c149 => ?_) (fun c149 => ?_)
        · skip
          rw [if_neg (by omega)] at hs
          refine V_iinc_1 d_tp_wordHere_154 rfl ?_
          refine V_aload_0 d_tp_wordHere_157 ?_
          refine V_getI d_tp_wordHere_158 fl_tp_22 is_tp ?_
          rw [g2]
          refine V_istore_2 d_tp_wordHere_161 rfl ?_
          refine V_iinc_3 d_tp_wordHere_162 rfl ?_
          refine V_goto 85 d_tp_wordHere_165 (by decide) ?_
          exact ih (k + 1) _ _ _ (by omega) he hlt hs (by omega) (by push_cast; omega) (by omega)
        · skip
          refine V_iload_1 d_tp_wordHere_152 ?_
          refine V_ireturn d_tp_wordHere_153 (hR _ _ ?_)
          rw [if_pos (by omega)] at hs
          exact ⟨hs, rfl⟩
      · skip
        rw [if_neg c106] at hs
        refine V_iload_2 d_tp_wordHere_109 ?_
        refine V_iconst (-1) d_tp_wordHere_110 ?_
        refine V_icmp_eq 139 d_tp_wordHere_111 (by decide) (by omega) (by omega) (fun c111 => ?_) (fun c111 => ?_)
        · skip
          rw [if_neg (fun h => h.1 (by omega))] at hs
          refine V_iconst (-1) d_tp_wordHere_139 ?_
          refine V_istore_2 d_tp_wordHere_140 rfl ?_
          refine V_goto 162 d_tp_wordHere_141 (by decide) ?_
          refine V_iinc_3 d_tp_wordHere_162 rfl ?_
          refine V_goto 85 d_tp_wordHere_165 (by decide) ?_
          exact ih (k + 1) _ _ _ (by omega) he hlt hs (by omega) (by push_cast; omega) (by omega)
        · skip
          refine V_iload_2 d_tp_wordHere_114 ?_
          refine V_aload_0 d_tp_wordHere_115 ?_
          refine V_getI d_tp_wordHere_116 fl_tp_39 is_tp ?_
          rw [q_up_eq]
          refine V_icmp_ge 139 d_tp_wordHere_119 (by decide) (by omega) (by omega) (fun c119 => ?_) (fun c119 => ?_)
          · skip
            rw [if_neg (fun h => by omega)] at hs
            refine V_iconst (-1) d_tp_wordHere_139 ?_
            refine V_istore_2 d_tp_wordHere_140 rfl ?_
            refine V_goto 162 d_tp_wordHere_141 (by decide) ?_
            refine V_iinc_3 d_tp_wordHere_162 rfl ?_
            refine V_goto 85 d_tp_wordHere_165 (by decide) ?_
            exact ih (k + 1) _ _ _ (by omega) he hlt hs (by omega) (by push_cast; omega) (by omega)
          · skip
            have gbl := gb (wE T N p e) like (by omega) (by omega)
            have bl := hB like (by omega) (by omega)
            refine V_aload_0 d_tp_wordHere_122 ?_
            refine V_getR d_tp_wordHere_123 fl_tp_9 is_tp r_tp_bytes ?_
            refine V_iload_2 d_tp_wordHere_126 ?_
            refine V_iald d_tp_wordHere_127 is_tp_bytes (by omega) (by omega) ?_
            rw [gbl]
            refine V_iload_4 d_tp_wordHere_128 ?_
            refine V_icmp_ne 139 d_tp_wordHere_130 (by decide) (by omega) (by omega) (fun c130 => ?_) (fun c130 => ?_)
            · skip
              rw [if_neg (fun h => c130 h.2.2)] at hs
              refine V_iconst (-1) d_tp_wordHere_139 ?_
              refine V_istore_2 d_tp_wordHere_140 rfl ?_
              refine V_goto 162 d_tp_wordHere_141 (by decide) ?_
              refine V_iinc_3 d_tp_wordHere_162 rfl ?_
              refine V_goto 85 d_tp_wordHere_165 (by decide) ?_
              exact ih (k + 1) _ _ _ (by omega) he hlt hs (by omega) (by push_cast; omega) (by omega)
            · skip
              rw [if_pos ⟨c111, by omega, by omega⟩] at hs
              refine V_iload_2 d_tp_wordHere_133 ?_
              refine V_iconst 1 d_tp_wordHere_134 ?_
              refine V_iadd d_tp_wordHere_135 ?_
              refine V_goto 140 d_tp_wordHere_136 (by decide) ?_
              refine V_istore_2 d_tp_wordHere_140 rfl ?_
              refine V_goto 162 d_tp_wordHere_141 (by decide) ?_
              refine V_iinc_3 d_tp_wordHere_162 rfl ?_
              refine V_goto 85 d_tp_wordHere_165 (by decide) ?_
              exact ih (k + 1) _ _ _ (by omega) he hlt hs (by omega) (by push_cast; omega) (by omega)
  have fin : V D C m_tp_wordHere 63 [vr D 1, vu, vu, vu, vu] [] (Zg g h) (q_up (q_up f 1 2 p) 1 7 (wE T N p e)) := by
    refine V_aload_0 d_tp_wordHere_63 ?_
    refine V_getI d_tp_wordHere_64 fl_tp_39 is_tp ?_
    rw [q_up_eq]
    refine V_aload_0 d_tp_wordHere_67 ?_
    refine V_getI d_tp_wordHere_68 fl_tp_22 is_tp ?_
    rw [g2]
    refine V_icmp_ne 76 d_tp_wordHere_71 (by decide) (by omega) (by omega) (fun c71 => ?_) (fun c71 => ?_)
    · skip
      refine V_iconst 0 d_tp_wordHere_76 ?_
      refine V_istore_1 d_tp_wordHere_77 rfl ?_
      refine V_aload_0 d_tp_wordHere_78 ?_
      refine V_getI d_tp_wordHere_79 fl_tp_22 is_tp ?_
      rw [g2]
      refine V_istore_2 d_tp_wordHere_82 rfl ?_
      refine V_iconst 0 d_tp_wordHere_83 ?_
      refine V_istore_3 d_tp_wordHere_84 rfl ?_
      have he : ¬ p = e := fun he => c71 (by unfold wE; rw [if_pos he])
      have e2 : wE T N p e = le T N p := by unfold wE; rw [if_neg he]
      refine scan 125 0 _ _ _ (by decide) he (by omega) ?_ (by decide) (by decide) (by omega)
      rw [List.drop_zero]
      unfold wch
      rw [scn_all hp.1 (by omega) wds 0 wds_no, e2]
      unfold wd; rw [if_neg he]
    · skip
      refine V_iconst (-1) d_tp_wordHere_74 ?_
      refine V_ireturn d_tp_wordHere_75 (hR _ _ ?_)
      refine ⟨?_, rfl⟩
      by_cases he : p = e
      · unfold wd; rw [if_pos he]
      · by_cases hw : wd T N p e = -1
        · exact hw.symm
        · have := wd_lt hp.2.1 hw
          unfold wE at c71
          rw [if_neg he] at c71
          omega
  have loop : ∀ (m : Nat) (x : Int), x + m = wE T N p e → p ≤ x → V D C m_tp_wordHere 13 [vr D 1, vu, vu, vu, vu] [] (Zg g h) (q_up (q_up f 1 2 p) 1 7 x) := by
    intro m
    induction m with
    | zero =>
      intro x hm hx
      have ex : x = wE T N p e := by omega
      by_cases eN : x = N
      · skip
        refine V_aload_0 d_tp_wordHere_13 ?_
        refine V_getI d_tp_wordHere_14 fl_tp_39 is_tp ?_
        rw [q_up_eq]
        refine V_aload_0 d_tp_wordHere_17 ?_
        refine V_getI d_tp_wordHere_18 fl_tp_19 is_tp ?_
        rw [g1]
        refine V_icmp_ge 63 d_tp_wordHere_21 (by decide) (by omega) (by omega) (fun c21 => ?_) (fun c21 => by omega)
        rw [ex]; exact fin
      · have gbx := gb x x (by omega) (by omega)
        have bx := hB x (by omega) (by omega)
        refine V_aload_0 d_tp_wordHere_13 ?_
        refine V_getI d_tp_wordHere_14 fl_tp_39 is_tp ?_
        rw [q_up_eq]
        refine V_aload_0 d_tp_wordHere_17 ?_
        refine V_getI d_tp_wordHere_18 fl_tp_19 is_tp ?_
        rw [g1]
        refine V_icmp_ge 63 d_tp_wordHere_21 (by decide) (by omega) (by omega) (fun c21 => by omega) (fun c21 => ?_)
        refine V_aload_0 d_tp_wordHere_24 ?_
        refine V_getR d_tp_wordHere_25 fl_tp_9 is_tp r_tp_bytes ?_
        refine V_aload_0 d_tp_wordHere_28 ?_
        refine V_getI d_tp_wordHere_29 fl_tp_39 is_tp ?_
        rw [q_up_eq]
        refine V_iald d_tp_wordHere_32 is_tp_bytes (by omega) (by omega) ?_
        rw [gbx]
        refine V_csI1 d_tp_wordHere_33 ml_tp_42 ms_tp_isLetter (by decide) (Nat.le_of_ble_eq_true rfl) (ok_tletter (by omega)) ?_
        rintro x33 f2 ⟨hx33, e2⟩
        rw [e2]; clear e2 f2
        refine V_if_eq 63 d_tp_wordHere_36 (by decide) (by rcases hx33 with h | h <;> omega) (fun c36 => ?_) (fun c36 => ?_)
        · skip
          rw [ex]; exact fin
        · skip
          refine V_aload_0 d_tp_wordHere_39 ?_
          refine V_getI d_tp_wordHere_40 fl_tp_22 is_tp ?_
          rw [g2]
          refine V_aload_0 d_tp_wordHere_43 ?_
          refine V_getI d_tp_wordHere_44 fl_tp_25 is_tp ?_
          rw [g8]
          refine V_icmp_eq 63 d_tp_wordHere_47 (by decide) (by omega) (by omega) (fun c47 => ?_) (fun c47 => ?_)
          · skip
            rw [ex]; exact fin
          · skip
            have hno := hle.2.2.2 (by unfold wE at ex; rw [if_neg c47] at ex; omega)
            unfold wE at ex; rw [if_neg c47] at ex
            rw [← ex] at hno
            have := q_b1 hx33 (by omega)
            rw [hno] at this; cases this
    | succ m ih =>
      intro x hm hx
      have he : ¬ p = e := fun he => by unfold wE at hm; rw [if_pos he] at hm; omega
      have e2 : wE T N p e = le T N p := by unfold wE; rw [if_neg he]
      have gbx := gb x x (by omega) (by omega)
      have bx := hB x (by omega) (by omega)
      have hyes := hle.2.2.1 x hx (by omega)
      refine V_aload_0 d_tp_wordHere_13 ?_
      refine V_getI d_tp_wordHere_14 fl_tp_39 is_tp ?_
      rw [q_up_eq]
      refine V_aload_0 d_tp_wordHere_17 ?_
      refine V_getI d_tp_wordHere_18 fl_tp_19 is_tp ?_
      rw [g1]
      refine V_icmp_ge 63 d_tp_wordHere_21 (by decide) (by omega) (by omega) (fun c21 => by omega) (fun c21 => ?_)
      refine V_aload_0 d_tp_wordHere_24 ?_
      refine V_getR d_tp_wordHere_25 fl_tp_9 is_tp r_tp_bytes ?_
      refine V_aload_0 d_tp_wordHere_28 ?_
      refine V_getI d_tp_wordHere_29 fl_tp_39 is_tp ?_
      rw [q_up_eq]
      refine V_iald d_tp_wordHere_32 is_tp_bytes (by omega) (by omega) ?_
      rw [gbx]
      refine V_csI1 d_tp_wordHere_33 ml_tp_42 ms_tp_isLetter (by decide) (Nat.le_of_ble_eq_true rfl) (ok_tletter (by omega)) ?_
      rintro x33 f2 ⟨hx33, e2⟩
      rw [e2]; clear e2 f2
      refine V_if_eq 63 d_tp_wordHere_36 (by decide) (by rcases hx33 with h | h <;> omega) (fun c36 => ?_) (fun c36 => ?_)
      · skip
        exact absurd hyes (q_b0 hx33 (by omega))
      · skip
        refine V_aload_0 d_tp_wordHere_39 ?_
        refine V_getI d_tp_wordHere_40 fl_tp_22 is_tp ?_
        rw [g2]
        refine V_aload_0 d_tp_wordHere_43 ?_
        refine V_getI d_tp_wordHere_44 fl_tp_25 is_tp ?_
        rw [g8]
        refine V_icmp_eq 63 d_tp_wordHere_47 (by decide) (by omega) (by omega) (fun c47 => by omega) (fun c47 => ?_)
        refine V_aload_0 d_tp_wordHere_50 ?_
        refine V_dup d_tp_wordHere_51 rfl ?_
        refine V_getI d_tp_wordHere_52 fl_tp_39 is_tp ?_
        rw [q_up_eq]
        refine V_iconst 1 d_tp_wordHere_55 ?_
        refine V_iadd d_tp_wordHere_56 ?_
        refine V_putI d_tp_wordHere_57 fl_tp_39 is_tp ?_
        rw [q_up_up]
        refine V_goto 13 d_tp_wordHere_60 (by decide) ?_
        exact ih _ (by omega) (by omega)
  refine V_aload_0 d_tp_wordHere_0 ?_
  refine V_cvI0 d_tp_wordHere_1 ml_tp_35 mv_tp_skipBlanks (by decide) (Nat.le_of_ble_eq_true rfl) is_tp (ok_skipBlanks hT) ?_
  rintro _ f2 ⟨rfl, e2⟩
  rw [e2]; clear e2 f2
  refine V_pop d_tp_wordHere_4 rfl ?_
  refine V_aload_0 d_tp_wordHere_5 ?_
  refine V_aload_0 d_tp_wordHere_6 ?_
  refine V_getI d_tp_wordHere_7 fl_tp_22 is_tp ?_
  rw [q_up_eq]
  refine V_putI d_tp_wordHere_10 fl_tp_39 is_tp ?_
  exact loop (wE T N p e - p).toNat p (by omega) (by omega)
theorem ok_takeWordHere {x : Int} (hx : f 1 7 = x) : OkI D m_tp_takeWordHere [vr D 1] (Zg g h) f (fun y f' => y = 1 ∧ f' = q_up (q_up f 1 2 x) 1 8 x) := by
  refine OkB_of (L0 := [vr D 1]) mi_tp_takeWordHere rfl rfl (Nat.le_of_ble_eq_true rfl) (fun C hR => ?_)
  refine V_aload_0 d_tp_takeWordHere_0 ?_
  refine V_aload_0 d_tp_takeWordHere_1 ?_
  refine V_getI d_tp_takeWordHere_2 fl_tp_39 is_tp ?_
  rw [hx]
  refine V_putI d_tp_takeWordHere_5 fl_tp_22 is_tp ?_
  refine V_aload_0 d_tp_takeWordHere_8 ?_
  refine V_aload_0 d_tp_takeWordHere_9 ?_
  refine V_getI d_tp_takeWordHere_10 fl_tp_22 is_tp ?_
  rw [q_up_eq]
  refine V_putI d_tp_takeWordHere_13 fl_tp_25 is_tp ?_
  refine V_iconst 1 d_tp_takeWordHere_16 ?_
  refine V_ireturn d_tp_takeWordHere_17 (hR _ _ (by decide) ?_)
  exact ⟨rfl, rfl⟩
/-- a word that stands there is taken -/
theorem tpS.word (hT : tpS f T N p e) (hw : ¬ wd T N p e = -1) : wE T N p e = le T N p ∧ tpS (q_up (q_up (q_up (q_up f 1 2 p) 1 7 (le T N p)) 1 2 (le T N p)) 1 8 (le T N p)) T N (sk T N (le T N p)) (le T N p) := by
  have hp := hT.pr
  have hle := le_rg (T := T) hp.2.1
  have hl := wd_lt hp.2.1 hw
  refine ⟨by unfold wE; rw [if_neg hl.1], hT.to (cK.refl f).up.up.up.up ?_ ?_ ?_ (q_up_eq _ _ _ _) (by omega)⟩
  · rw [q_up_ne (Or.inr (by decide)), q_up_ne (Or.inr (by decide)), q_up_ne (Or.inr (by decide)), q_up_ne (Or.inr (by decide))]; exact hT.2.1
  · rw [q_up_ne (Or.inr (by decide)), q_up_eq]; omega
  · rw [q_up_ne (Or.inr (by decide)), q_up_eq]
theorem tpS.here (hT : tpS f T N p e) (x : Int) : tpS (q_up (q_up f 1 2 p) 1 7 x) T N p e := by
  have h := hT.pl
  exact h.to (cK.refl _).up (by rw [q_up_ne (Or.inr (by decide))]; exact h.2.1) (by rw [q_up_ne (Or.inr (by decide))]; exact h.2.2.2.1) (by rw [q_up_ne (Or.inr (by decide))]; exact h.2.2.2.2.1) (by rw [q_up_ne (Or.inr (by decide))]; exact h.2.2.2.2.2.1) h.2.2.2.2.2.2
theorem ok_takeWord (hT : tpS f T N p e) {i : Int} (hi : 0 ≤ i ∧ i < 25) : OkI D m_tp_takeWord [vr D 1, vi i] (Zg g h) f (fun x f' => cO f f' T N x (l_word T N i p e)) := by
  have hp := hT.pr
  have hwr := wd_rg (T := T) (N := N) p e
  refine OkB_of (L0 := [vr D 1, vi i]) mi_tp_takeWord rfl rfl (Nat.le_of_ble_eq_true rfl) (fun C hR => ?_)
  refine V_aload_0 d_tp_takeWord_0 ?_
  refine V_cvI0 d_tp_takeWord_1 ml_tp_56 mv_tp_wordHere (by decide) (Nat.le_of_ble_eq_true rfl) is_tp (ok_wordHere hT) ?_
  rintro _ f2 ⟨rfl, e2⟩
  rw [e2]; clear e2 f2
  refine V_iload_1 d_tp_takeWord_4 ?_
  refine V_icmp_eq 13 d_tp_takeWord_5 (by decide) (by omega) (by omega) (fun c5 => ?_) (fun c5 => ?_)
  · skip
    obtain ⟨w1, w2⟩ := hT.word (by omega)
    rw [w1]
    refine V_aload_0 d_tp_takeWord_13 ?_
    refine V_cvI0 d_tp_takeWord_14 ml_tp_63 mv_tp_takeWordHere (by decide) (Nat.le_of_ble_eq_true rfl) is_tp (ok_takeWordHere (q_up_eq _ _ _ _)) ?_
    rintro x f9 ⟨hx, e9⟩
    rw [hx, e9]; clear hx e9 f9
    refine V_ireturn d_tp_takeWord_17 (hR _ _ (by decide) ?_)
    unfold l_word; rw [if_pos c5]
    exact ⟨rfl, w2, by rw [q_up_ne (Or.inr (by decide)), q_up_ne (Or.inr (by decide)), q_up_ne (Or.inr (by decide)), q_up_ne (Or.inr (by decide))], by rw [q_up_ne (Or.inr (by decide)), q_up_ne (Or.inr (by decide)), q_up_ne (Or.inr (by decide)), q_up_ne (Or.inr (by decide))], (cK.refl f).up.up.up.up⟩
  · skip
    refine V_aload_0 d_tp_takeWord_8 ?_
    refine V_cvI0 d_tp_takeWord_9 ml_tp_59 mv_tp_failHere (by decide) (Nat.le_of_ble_eq_true rfl) is_tp (ok_failHere (w := p) (by rw [q_up_ne (Or.inr (by decide)), q_up_eq])) ?_
    rintro x f9 ⟨hx, e9⟩
    rw [hx, e9]; clear hx e9 f9
    refine V_ireturn d_tp_takeWord_12 (hR _ _ (by decide) ?_)
    unfold l_word; rw [if_neg c5]
    exact ⟨rfl, by rw [q_up_ne (Or.inr (by decide)), q_up_eq], q_up_eq _ _ _ _, (cK.refl f).up.up.up.up⟩
theorem ok_passOverWord (hT : tpS f T N p e) {i : Int} (hi : 0 ≤ i ∧ i < 25) : OkI D m_tp_passOverWord [vr D 1, vi i] (Zg g h) f (fun x f' => ((x = 1 ∧ wd T N p e = i ∧ tpS f' T N (sk T N (le T N p)) (le T N p)) ∨ (x = 0 ∧ ¬ wd T N p e = i ∧ tpS f' T N p e)) ∧ f' 1 3 = f 1 3 ∧ f' 1 4 = f 1 4 ∧ cK f f') := by
  have hp := hT.pr
  have hwr := wd_rg (T := T) (N := N) p e
  refine OkB_of (L0 := [vr D 1, vi i]) mi_tp_passOverWord rfl rfl (Nat.le_of_ble_eq_true rfl) (fun C hR => ?_)
  refine V_aload_0 d_tp_passOverWord_0 ?_
  refine V_cvI0 d_tp_passOverWord_1 ml_tp_56 mv_tp_wordHere (by decide) (Nat.le_of_ble_eq_true rfl) is_tp (ok_wordHere hT) ?_
  rintro _ f2 ⟨rfl, e2⟩
  rw [e2]; clear e2 f2
  refine V_iload_1 d_tp_passOverWord_4 ?_
  refine V_icmp_ne 19 d_tp_passOverWord_5 (by decide) (by omega) (by omega) (fun c5 => ?_) (fun c5 => ?_)
  · skip
    refine V_iconst 0 d_tp_passOverWord_19 ?_
    refine V_ireturn d_tp_passOverWord_20 (hR _ _ (by decide) ?_)
    exact ⟨Or.inr ⟨rfl, c5, hT.here _⟩, by rw [q_up_ne (Or.inr (by decide)), q_up_ne (Or.inr (by decide))], by rw [q_up_ne (Or.inr (by decide)), q_up_ne (Or.inr (by decide))], (cK.refl f).up.up⟩
  · skip
    obtain ⟨w1, w2⟩ := hT.word (by omega)
    rw [w1]
    refine V_aload_0 d_tp_passOverWord_8 ?_
    refine V_cvI0 d_tp_passOverWord_9 ml_tp_63 mv_tp_takeWordHere (by decide) (Nat.le_of_ble_eq_true rfl) is_tp (ok_takeWordHere (q_up_eq _ _ _ _)) ?_
    rintro x f9 ⟨hx, e9⟩
    rw [hx, e9]; clear hx e9 f9
    refine V_if_eq 19 d_tp_passOverWord_12 (by decide) (by omega) (fun c12 => by omega) (fun c12 => ?_)
    refine V_iconst 1 d_tp_passOverWord_15 ?_
    refine V_goto 20 d_tp_passOverWord_16 (by decide) ?_
    refine V_ireturn d_tp_passOverWord_20 (hR _ _ (by decide) ?_)
    exact ⟨Or.inl ⟨rfl, by omega, w2⟩, by rw [q_up_ne (Or.inr (by decide)), q_up_ne (Or.inr (by decide)), q_up_ne (Or.inr (by decide)), q_up_ne (Or.inr (by decide))], by rw [q_up_ne (Or.inr (by decide)), q_up_ne (Or.inr (by decide)), q_up_ne (Or.inr (by decide)), q_up_ne (Or.inr (by decide))], (cK.refl f).up.up.up.up⟩
end TP2
