/-! the class reckons codes: signs, words, the loop -/
section RCK2
variable {D : q_D} {f f' f'' : q_F} {A : q_As} {g h : Int} {E : Int → Int}
theorem ev1_cases {x : Int} {st st' : List Int} (hx : ev1 E x st = some st') : ((1000 ≤ x ∧ x ≤ 10999) ∧ st' = (x - 1000) :: st) ∨ (x = 17 ∧ st' = 1 :: st) ∨ (isWd x ∧ st' = E x :: st) ∨ (x = 16 ∧ ∃ b s, st = b :: s ∧ is01 b ∧ st' = (1 - b) :: s) ∨ ∃ b a s, st = b :: a :: s ∧ (isOp x ∨ ((x = 14 ∨ x = 15) ∧ is01 a ∧ is01 b)) ∧ st' = op2 x a b :: s := by
  unfold ev1 at hx
  split at hx
  · next h1 => cases hx; exact Or.inl ⟨h1, rfl⟩
  · split at hx
    · next h2 => cases hx; exact Or.inr (Or.inl ⟨h2, rfl⟩)
    · split at hx
      · next h3 => cases hx; exact Or.inr (Or.inr (Or.inl ⟨h3, rfl⟩))
      · match st, hx with
        | [], hx => cases hx
        | b :: s, hx =>
          simp only at hx
          split at hx
          · next h4 =>
            split at hx
            · next h5 => cases hx; exact Or.inr (Or.inr (Or.inr (Or.inl ⟨h4, b, s, rfl, h5, rfl⟩)))
            · cases hx
          · match s, hx with
            | [], hx => cases hx
            | a :: s, hx =>
              simp only at hx
              split at hx
              · next h6 => cases hx; exact Or.inr (Or.inr (Or.inr (Or.inr ⟨b, a, s, rfl, h6, rfl⟩)))
              · cases hx
theorem ev_step {x : Int} {c st r : List Int} (h : ev E (x :: c) st = some r) : st.length < 60 ∧ ∃ st', ev1 E x st = some st' ∧ ev E c st' = some r := by
  have h : (if st.length < 60 then (match ev1 E x st with | none => none | some st => ev E c st) else none) = some r := h
  split at h
  · next hl =>
    cases h1 : ev1 E x st with
    | none => rw [h1] at h; cases h
    | some st' => rw [h1] at h; exact ⟨hl, st', rfl, h⟩
  · cases h
theorem ev1_bd {x : Int} {st st' : List Int} (hE : eB E) (hb : bdL st) (hx : ev1 E x st = some st') : bdL st' := by
  have cons : ∀ (v : Int) (s : List Int), bd6 v → bdL s → bdL (v :: s) := fun v s hv hs y hy => by
    rcases List.mem_cons.mp hy with e | e
    · rw [e]; exact hv
    · exact hs y e
  have tl : ∀ (v : Int) (s : List Int), bdL (v :: s) → bd6 v ∧ bdL s := fun v s hs => ⟨hs v (List.mem_cons_self ..), fun y hy => hs y (List.mem_cons_of_mem _ hy)⟩
  rcases ev1_cases hx with ⟨h1, rfl⟩ | ⟨h1, rfl⟩ | ⟨h1, rfl⟩ | ⟨h1, b, s, rfl, h2, rfl⟩ | ⟨b, a, s, rfl, h2, rfl⟩
  · exact cons _ _ (by constructor <;> omega) hb
  · exact cons _ _ (by decide) hb
  · exact cons _ _ (hE x) hb
  · exact cons _ _ (by constructor <;> omega) (tl _ _ hb).2
  · have g1 := tl _ _ hb
    have g2 := tl _ _ g1.2
    refine cons _ _ ?_ g2.2
    rcases h2 with (h3 | h3) | ⟨h3, h4, h5⟩
    · exact op2_bd h3 g2.1 g1.1
    · have := op2_B (a := a) (b := b) h3; constructor <;> omega
    · have := op2_C h3 h4 h5; constructor <;> omega
theorem op2_1 (a b : Int) : op2 1 a b = clp (a + b) := by unfold op2; rw [if_pos rfl]
theorem op2_2 (a b : Int) : op2 2 a b = clp (a - b) := by unfold op2; rw [if_neg (by decide), if_pos rfl]
theorem op2_3 (a b : Int) : op2 3 a b = clp (a * b) := by unfold op2; rw [if_neg (by decide), if_neg (by decide), if_pos rfl]
theorem op2_4 (a b : Int) : op2 4 a b = flr a b := by unfold op2; rw [if_neg (by decide), if_neg (by decide), if_neg (by decide), if_pos rfl]
theorem op2_5 (a b : Int) : op2 5 a b = min a b := by unfold op2; rw [if_neg (by decide), if_neg (by decide), if_neg (by decide), if_neg (by decide), if_pos rfl]
theorem op2_6 (a b : Int) : op2 6 a b = max a b := by unfold op2; rw [if_neg (by decide), if_neg (by decide), if_neg (by decide), if_neg (by decide), if_neg (by decide), if_pos rfl]
theorem op2_11 (a b : Int) : op2 11 a b = if a < b then 1 else 0 := by unfold op2; rw [if_neg (by decide), if_neg (by decide), if_neg (by decide), if_neg (by decide), if_neg (by decide), if_neg (by decide), if_pos rfl]
theorem op2_12 (a b : Int) : op2 12 a b = if b < a then 1 else 0 := by unfold op2; rw [if_neg (by decide), if_neg (by decide), if_neg (by decide), if_neg (by decide), if_neg (by decide), if_neg (by decide), if_neg (by decide), if_pos rfl]
theorem op2_13 (a b : Int) : op2 13 a b = if a = b then 1 else 0 := by unfold op2; rw [if_neg (by decide), if_neg (by decide), if_neg (by decide), if_neg (by decide), if_neg (by decide), if_neg (by decide), if_neg (by decide), if_neg (by decide), if_pos rfl]
theorem op2_14 (a b : Int) : op2 14 a b = min a b := by unfold op2; rw [if_neg (by decide), if_neg (by decide), if_neg (by decide), if_neg (by decide), if_neg (by decide), if_neg (by decide), if_neg (by decide), if_neg (by decide), if_neg (by decide), if_pos rfl]
theorem op2_15 (a b : Int) : op2 15 a b = max a b := by unfold op2; rw [if_neg (by decide), if_neg (by decide), if_neg (by decide), if_neg (by decide), if_neg (by decide), if_neg (by decide), if_neg (by decide), if_neg (by decide), if_neg (by decide), if_neg (by decide)]
theorem mul_bd {a b : Int} (ha : bd6 a) (hb : bd6 b) : -1000000000000 ≤ a * b ∧ a * b ≤ 1000000000000 := by
  have h1 : (a * b).natAbs ≤ 1000000 * 1000000 := by
    rw [Int.natAbs_mul]; exact Nat.mul_le_mul (by omega) (by omega)
  omega
theorem ok_doSign {st : List Int} (hK : kS f st) (hl : st.length < 60) {a b s c : Int} (ha : bd6 a) (hb : bd6 b) (hs : (s = 43 ∧ c = 1) ∨ (s = 45 ∧ c = 2) ∨ (s = 42 ∧ c = 3) ∨ (s = 47 ∧ c = 4) ∨ (s = 60 ∧ c = 11) ∨ (s = 62 ∧ c = 12) ∨ (s = 61 ∧ c = 13)) : OkV D m_ru_doSign [vr D 4, vi s, vi b, vi a] (Zg g h) f (fun f' => kS f' (op2 c a b :: st) ∧ kK f f') := by
  have hp : ∀ v : Int, OkV D m_ru_push [vr D 4, vi v] (Zg g h) f (fun f' => kS f' (v :: st) ∧ kK f f') := fun v => ok_push hK (by omega)
  have hm := mul_bd ha hb
  rcases hs with ⟨rfl, rfl⟩ | ⟨rfl, rfl⟩ | ⟨rfl, rfl⟩ | ⟨rfl, rfl⟩ | ⟨rfl, rfl⟩ | ⟨rfl, rfl⟩ | ⟨rfl, rfl⟩
  · skip
    rw [op2_1]
    refine OkV_of (L0 := [vr D 4, vi 43, vi b, vi a]) mi_ru_doSign rfl rfl (Nat.le_of_ble_eq_true rfl) (fun C hR => ?_)
    refine V_iload_1 d_ru_doSign_0 ?_
    refine V_lsw (off := 59) 60 d_ru_doSign_1 (by decide) (by decide) rfl (by decide) ?_
    refine V_aload_0 d_ru_doSign_60 ?_
    refine V_iload_3 d_ru_doSign_61 ?_
    refine V_i2l d_ru_doSign_62 (by omega) ?_
    refine V_iload_2 d_ru_doSign_63 ?_
    refine V_i2l d_ru_doSign_64 (by omega) ?_
    refine V_ladd d_ru_doSign_65 ?_
    refine V_csI1 d_ru_doSign_66 ml_ru_160 ms_ru_bounded (by decide) (Nat.le_of_ble_eq_true rfl) (ok_bounded (by omega)) ?_
    rintro _ f2 ⟨rfl, e2⟩
    rw [e2]; clear e2 f2
    refine V_cvV1 d_ru_doSign_69 ml_ru_146 mv_ru_push (by decide) (Nat.le_of_ble_eq_true rfl) is_ru (hp _) ?_
    rintro F hF
    refine V_goto 173 d_ru_doSign_72 (by decide) ?_
    refine V_return d_ru_doSign_173 (hR _ ?_)
    exact hF
  · skip
    rw [op2_2]
    refine OkV_of (L0 := [vr D 4, vi 45, vi b, vi a]) mi_ru_doSign rfl rfl (Nat.le_of_ble_eq_true rfl) (fun C hR => ?_)
    refine V_iload_1 d_ru_doSign_0 ?_
    refine V_lsw (off := 74) 75 d_ru_doSign_1 (by decide) (by decide) rfl (by decide) ?_
    refine V_aload_0 d_ru_doSign_75 ?_
    refine V_iload_3 d_ru_doSign_76 ?_
    refine V_i2l d_ru_doSign_77 (by omega) ?_
    refine V_iload_2 d_ru_doSign_78 ?_
    refine V_i2l d_ru_doSign_79 (by omega) ?_
    refine V_lsub d_ru_doSign_80 ?_
    refine V_csI1 d_ru_doSign_81 ml_ru_160 ms_ru_bounded (by decide) (Nat.le_of_ble_eq_true rfl) (ok_bounded (by omega)) ?_
    rintro _ f2 ⟨rfl, e2⟩
    rw [e2]; clear e2 f2
    refine V_cvV1 d_ru_doSign_84 ml_ru_146 mv_ru_push (by decide) (Nat.le_of_ble_eq_true rfl) is_ru (hp _) ?_
    rintro F hF
    refine V_goto 173 d_ru_doSign_87 (by decide) ?_
    refine V_return d_ru_doSign_173 (hR _ ?_)
    exact hF
  · skip
    rw [op2_3]
    refine OkV_of (L0 := [vr D 4, vi 42, vi b, vi a]) mi_ru_doSign rfl rfl (Nat.le_of_ble_eq_true rfl) (fun C hR => ?_)
    refine V_iload_1 d_ru_doSign_0 ?_
    refine V_lsw (off := 89) 90 d_ru_doSign_1 (by decide) (by decide) rfl (by decide) ?_
    refine V_aload_0 d_ru_doSign_90 ?_
    refine V_iload_3 d_ru_doSign_91 ?_
    refine V_i2l d_ru_doSign_92 (by omega) ?_
    refine V_iload_2 d_ru_doSign_93 ?_
    refine V_i2l d_ru_doSign_94 (by omega) ?_
    refine V_lmul d_ru_doSign_95 ?_
    refine V_csI1 d_ru_doSign_96 ml_ru_160 ms_ru_bounded (by decide) (Nat.le_of_ble_eq_true rfl) (ok_bounded (by omega)) ?_
    rintro _ f2 ⟨rfl, e2⟩
    rw [e2]; clear e2 f2
    refine V_cvV1 d_ru_doSign_99 ml_ru_146 mv_ru_push (by decide) (Nat.le_of_ble_eq_true rfl) is_ru (hp _) ?_
    rintro F hF
    refine V_goto 173 d_ru_doSign_102 (by decide) ?_
    refine V_return d_ru_doSign_173 (hR _ ?_)
    exact hF
  · skip
    rw [op2_4]
    refine OkV_of (L0 := [vr D 4, vi 47, vi b, vi a]) mi_ru_doSign rfl rfl (Nat.le_of_ble_eq_true rfl) (fun C hR => ?_)
    refine V_iload_1 d_ru_doSign_0 ?_
    refine V_lsw (off := 104) 105 d_ru_doSign_1 (by decide) (by decide) rfl (by decide) ?_
    refine V_aload_0 d_ru_doSign_105 ?_
    refine V_iload_2 d_ru_doSign_106 ?_
    refine V_if_ne 114 d_ru_doSign_107 (by decide) (by omega) (fun c107 => ?_) (fun c107 => ?_)
    · skip
      refine V_iload_3 d_ru_doSign_114 ?_
      refine V_iload_2 d_ru_doSign_115 ?_
      refine V_csI2 d_ru_doSign_116 ml_ru_164 ms_jm_floorDiv (by decide) (Nat.le_of_ble_eq_true rfl) (ok_floorDiv ha hb c107) ?_
      rintro _ f2 ⟨rfl, e2⟩
      rw [e2]; clear e2 f2
      refine V_cvV1 d_ru_doSign_119 ml_ru_146 mv_ru_push (by decide) (Nat.le_of_ble_eq_true rfl) is_ru (hp _) ?_
      rintro F hF
      refine V_goto 173 d_ru_doSign_122 (by decide) ?_
      refine V_return d_ru_doSign_173 (hR _ ?_)
      exact hF
    · skip
      refine V_iconst 0 d_ru_doSign_110 ?_
      refine V_goto 119 d_ru_doSign_111 (by decide) ?_
      refine V_cvV1 d_ru_doSign_119 ml_ru_146 mv_ru_push (by decide) (Nat.le_of_ble_eq_true rfl) is_ru (hp _) ?_
      rintro F hF
      refine V_goto 173 d_ru_doSign_122 (by decide) ?_
      refine V_return d_ru_doSign_173 (hR _ ?_)
      have e0 : flr a b = 0 := by unfold flr; rw [if_pos (by omega)]
      rw [← e0] at hF; exact hF
  · skip
    rw [op2_11]
    refine OkV_of (L0 := [vr D 4, vi 60, vi b, vi a]) mi_ru_doSign rfl rfl (Nat.le_of_ble_eq_true rfl) (fun C hR => ?_)
    refine V_iload_1 d_ru_doSign_0 ?_
    refine V_lsw (off := 124) 125 d_ru_doSign_1 (by decide) (by decide) rfl (by decide) ?_
    refine V_aload_0 d_ru_doSign_125 ?_
    refine V_iload_3 d_ru_doSign_126 ?_
    refine V_iload_2 d_ru_doSign_127 ?_
    refine V_icmp_ge 135 d_ru_doSign_128 (by decide) (by omega) (by omega) (fun c128 => ?_) (fun c128 => ?_)
    · skip
      refine V_iconst 0 d_ru_doSign_135 ?_
      refine V_cvV1 d_ru_doSign_136 ml_ru_146 mv_ru_push (by decide) (Nat.le_of_ble_eq_true rfl) is_ru (hp _) ?_
      rintro F hF
      refine V_goto 173 d_ru_doSign_139 (by decide) ?_
      refine V_return d_ru_doSign_173 (hR _ ?_)
      have e0 : (if a < b then (1 : Int) else 0) = 0 := if_neg (by omega)
      rw [← e0] at hF; exact hF
    · skip
      refine V_iconst 1 d_ru_doSign_131 ?_
      refine V_goto 136 d_ru_doSign_132 (by decide) ?_
      refine V_cvV1 d_ru_doSign_136 ml_ru_146 mv_ru_push (by decide) (Nat.le_of_ble_eq_true rfl) is_ru (hp _) ?_
      rintro F hF
      refine V_goto 173 d_ru_doSign_139 (by decide) ?_
      refine V_return d_ru_doSign_173 (hR _ ?_)
      have e0 : (if a < b then (1 : Int) else 0) = 1 := if_pos (by omega)
      rw [← e0] at hF; exact hF
  · skip
    rw [op2_12]
    refine OkV_of (L0 := [vr D 4, vi 62, vi b, vi a]) mi_ru_doSign rfl rfl (Nat.le_of_ble_eq_true rfl) (fun C hR => ?_)
    refine V_iload_1 d_ru_doSign_0 ?_
    refine V_lsw (off := 141) 142 d_ru_doSign_1 (by decide) (by decide) rfl (by decide) ?_
    refine V_aload_0 d_ru_doSign_142 ?_
    refine V_iload_3 d_ru_doSign_143 ?_
    refine V_iload_2 d_ru_doSign_144 ?_
    refine V_icmp_le 152 d_ru_doSign_145 (by decide) (by omega) (by omega) (fun c145 => ?_) (fun c145 => ?_)
    · skip
      refine V_iconst 0 d_ru_doSign_152 ?_
      refine V_cvV1 d_ru_doSign_153 ml_ru_146 mv_ru_push (by decide) (Nat.le_of_ble_eq_true rfl) is_ru (hp _) ?_
      rintro F hF
      refine V_goto 173 d_ru_doSign_156 (by decide) ?_
      refine V_return d_ru_doSign_173 (hR _ ?_)
      have e0 : (if b < a then (1 : Int) else 0) = 0 := if_neg (by omega)
      rw [← e0] at hF; exact hF
    · skip
      refine V_iconst 1 d_ru_doSign_148 ?_
      refine V_goto 153 d_ru_doSign_149 (by decide) ?_
      refine V_cvV1 d_ru_doSign_153 ml_ru_146 mv_ru_push (by decide) (Nat.le_of_ble_eq_true rfl) is_ru (hp _) ?_
      rintro F hF
      refine V_goto 173 d_ru_doSign_156 (by decide) ?_
      refine V_return d_ru_doSign_173 (hR _ ?_)
      have e0 : (if b < a then (1 : Int) else 0) = 1 := if_pos (by omega)
      rw [← e0] at hF; exact hF
  · skip
    rw [op2_13]
    refine OkV_of (L0 := [vr D 4, vi 61, vi b, vi a]) mi_ru_doSign rfl rfl (Nat.le_of_ble_eq_true rfl) (fun C hR => ?_)
    refine V_iload_1 d_ru_doSign_0 ?_
    refine V_lsw (off := 158) 159 d_ru_doSign_1 (by decide) (by decide) rfl (by decide) ?_
    refine V_aload_0 d_ru_doSign_159 ?_
    refine V_iload_3 d_ru_doSign_160 ?_
    refine V_iload_2 d_ru_doSign_161 ?_
    refine V_icmp_ne 169 d_ru_doSign_162 (by decide) (by omega) (by omega) (fun c162 => ?_) (fun c162 => ?_)
    · skip
      refine V_iconst 0 d_ru_doSign_169 ?_
      refine V_cvV1 d_ru_doSign_170 ml_ru_146 mv_ru_push (by decide) (Nat.le_of_ble_eq_true rfl) is_ru (hp _) ?_
      rintro F hF
      refine V_return d_ru_doSign_173 (hR _ ?_)
      have e0 : (if a = b then (1 : Int) else 0) = 0 := if_neg (by omega)
      rw [← e0] at hF; exact hF
    · skip
      refine V_iconst 1 d_ru_doSign_165 ?_
      refine V_goto 170 d_ru_doSign_166 (by decide) ?_
      refine V_cvV1 d_ru_doSign_170 ml_ru_146 mv_ru_push (by decide) (Nat.le_of_ble_eq_true rfl) is_ru (hp _) ?_
      rintro F hF
      refine V_return d_ru_doSign_173 (hR _ ?_)
      have e0 : (if a = b then (1 : Int) else 0) = 1 := if_pos (by omega)
      rw [← e0] at hF; exact hF
theorem ok_doWord1 {st : List Int} (hK : kS f st) (hl : st.length < 60) {w v : Int} (hw : w = 3 ∨ w = 9 ∨ w = 10 ∨ w = 19 ∨ w = 20 ∨ w = 21 ∨ w = 22) (hv : f 8 w = v) : OkV D m_ru_doWord [vr D 4, vi w] (Zg g h) f (fun f' => kS f' (v :: st) ∧ kK f f') := by
  refine OkV_of (L0 := [vr D 4, vi w]) mi_ru_doWord rfl rfl (Nat.le_of_ble_eq_true rfl) (fun C hR => ?_)
  have K101 : V D C m_ru_doWord 101 [vr D 4, vi w] [] (Zg g h) f := by
    refine V_aload_0 d_ru_doWord_101 ?_
    refine V_aload_0 d_ru_doWord_102 ?_
    refine V_getR d_ru_doWord_103 fl_ru_23 is_ru r_ru_known ?_
    refine V_iload_1 d_ru_doWord_106 ?_
    refine V_iald d_ru_doWord_107 is_ru_known (by omega) (by omega) ?_
    rw [hv]
    refine V_cvV1 d_ru_doWord_108 ml_ru_146 mv_ru_push (by decide) (Nat.le_of_ble_eq_true rfl) is_ru (ok_push hK (by omega)) ?_
    rintro F hF
    refine V_return d_ru_doWord_111 (hR _ ?_)
    exact hF
  refine V_iload_1 d_ru_doWord_0 ?_
  rcases hw with rfl | rfl | rfl | rfl | rfl | rfl | rfl
  · exact V_tsw 101 d_ru_doWord_1 (by decide) (by decide) (fun _ => K101) (fun hc => by omega)
  · exact V_tsw 101 d_ru_doWord_1 (by decide) (by decide) (fun _ => K101) (fun hc => by omega)
  · exact V_tsw 101 d_ru_doWord_1 (by decide) (by decide) (fun _ => K101) (fun hc => by omega)
  · exact V_tsi 101 d_ru_doWord_1 (by decide) (by decide) rfl (by decide) K101
  · exact V_tsi 101 d_ru_doWord_1 (by decide) (by decide) rfl (by decide) K101
  · exact V_tsi 101 d_ru_doWord_1 (by decide) (by decide) rfl (by decide) K101
  · exact V_tsi 101 d_ru_doWord_1 (by decide) (by decide) rfl (by decide) K101
theorem ok_doNot {st : List Int} {b : Int} (hK : kS f (b :: st)) (hl : st.length < 60) : OkV D m_ru_doWord [vr D 4, vi 18] (Zg g h) f (fun f' => kS f' ((1 - b) :: st) ∧ kK f f') := by
  refine OkV_of (L0 := [vr D 4, vi 18]) mi_ru_doWord rfl rfl (Nat.le_of_ble_eq_true rfl) (fun C hR => ?_)
  refine V_iload_1 d_ru_doWord_0 ?_
  refine V_tsi 52 d_ru_doWord_1 (by decide) (by decide) rfl (by decide) ?_
  refine V_aload_0 d_ru_doWord_52 ?_
  refine V_iconst 1 d_ru_doWord_53 ?_
  refine V_aload_0 d_ru_doWord_54 ?_
  refine V_cvI0 d_ru_doWord_55 ml_ru_150 mv_ru_pop (by decide) (Nat.le_of_ble_eq_true rfl) is_ru (ok_pop hK (by omega)) ?_
  rintro x F ⟨rfl, k1, k2⟩
  refine V_isub d_ru_doWord_58 ?_
  refine V_cvV1 d_ru_doWord_59 ml_ru_146 mv_ru_push (by decide) (Nat.le_of_ble_eq_true rfl) is_ru (ok_push k1 (by omega)) ?_
  rintro F2 ⟨k3, k4⟩
  refine V_goto 111 d_ru_doWord_62 (by decide) ?_
  refine V_return d_ru_doWord_111 (hR _ ?_)
  exact ⟨k3, k2.tr k4⟩
theorem ok_doMM {st : List Int} {a b w c : Int} (hK : kS f (b :: a :: st)) (hl : st.length < 60) (ha : bd6 a) (hb : bd6 b) (hw : (w = 24 ∧ c = 6) ∨ (w = 16 ∧ c = 15) ∨ (w = 23 ∧ c = 5) ∨ (w = 17 ∧ c = 14)) : OkV D m_ru_doWord [vr D 4, vi w] (Zg g h) f (fun f' => kS f' (op2 c a b :: st) ∧ kK f f') := by
  rcases hw with ⟨rfl, rfl⟩ | ⟨rfl, rfl⟩ | ⟨rfl, rfl⟩ | ⟨rfl, rfl⟩
  · skip
    rw [op2_6]
    refine OkV_of (L0 := [vr D 4, vi 24]) mi_ru_doWord rfl rfl (Nat.le_of_ble_eq_true rfl) (fun C hR => ?_)
    refine V_iload_1 d_ru_doWord_0 ?_
    refine V_tsi 65 d_ru_doWord_1 (by decide) (by decide) rfl (by decide) ?_
    refine V_aload_0 d_ru_doWord_65 ?_
    refine V_aload_0 d_ru_doWord_66 ?_
    refine V_cvI0 d_ru_doWord_67 ml_ru_150 mv_ru_pop (by decide) (Nat.le_of_ble_eq_true rfl) is_ru (ok_pop hK (by rw [List.length_cons]; omega)) ?_
    rintro x F ⟨rfl, k1, k2⟩
    refine V_aload_0 d_ru_doWord_70 ?_
    refine V_cvI0 d_ru_doWord_71 ml_ru_150 mv_ru_pop (by decide) (Nat.le_of_ble_eq_true rfl) is_ru (ok_pop k1 (by omega)) ?_
    rintro y F2 ⟨rfl, k3, k4⟩
    refine V_csI2 d_ru_doWord_74 ml_ru_140 ms_jm_max (by decide) (Nat.le_of_ble_eq_true rfl) (ok_max (by omega) (by omega)) ?_
    rintro _ f2 ⟨rfl, e2⟩
    rw [e2]; clear e2 f2
    refine V_cvV1 d_ru_doWord_77 ml_ru_146 mv_ru_push (by decide) (Nat.le_of_ble_eq_true rfl) is_ru (ok_push k3 (by omega)) ?_
    rintro F3 ⟨k5, k6⟩
    rw [show max x y = max y x by omega] at k5
    refine V_goto 111 d_ru_doWord_80 (by decide) ?_
    refine V_return d_ru_doWord_111 (hR _ ?_)
    exact ⟨k5, (k2.tr k4).tr k6⟩
  · skip
    rw [op2_15]
    refine OkV_of (L0 := [vr D 4, vi 16]) mi_ru_doWord rfl rfl (Nat.le_of_ble_eq_true rfl) (fun C hR => ?_)
    refine V_iload_1 d_ru_doWord_0 ?_
    refine V_tsi 65 d_ru_doWord_1 (by decide) (by decide) rfl (by decide) ?_
    refine V_aload_0 d_ru_doWord_65 ?_
    refine V_aload_0 d_ru_doWord_66 ?_
    refine V_cvI0 d_ru_doWord_67 ml_ru_150 mv_ru_pop (by decide) (Nat.le_of_ble_eq_true rfl) is_ru (ok_pop hK (by rw [List.length_cons]; omega)) ?_
    rintro x F ⟨rfl, k1, k2⟩
    refine V_aload_0 d_ru_doWord_70 ?_
    refine V_cvI0 d_ru_doWord_71 ml_ru_150 mv_ru_pop (by decide) (Nat.le_of_ble_eq_true rfl) is_ru (ok_pop k1 (by omega)) ?_
    rintro y F2 ⟨rfl, k3, k4⟩
    refine V_csI2 d_ru_doWord_74 ml_ru_140 ms_jm_max (by decide) (Nat.le_of_ble_eq_true rfl) (ok_max (by omega) (by omega)) ?_
    rintro _ f2 ⟨rfl, e2⟩
    rw [e2]; clear e2 f2
    refine V_cvV1 d_ru_doWord_77 ml_ru_146 mv_ru_push (by decide) (Nat.le_of_ble_eq_true rfl) is_ru (ok_push k3 (by omega)) ?_
    rintro F3 ⟨k5, k6⟩
    rw [show max x y = max y x by omega] at k5
    refine V_goto 111 d_ru_doWord_80 (by decide) ?_
    refine V_return d_ru_doWord_111 (hR _ ?_)
    exact ⟨k5, (k2.tr k4).tr k6⟩
  · skip
    rw [op2_5]
    refine OkV_of (L0 := [vr D 4, vi 23]) mi_ru_doWord rfl rfl (Nat.le_of_ble_eq_true rfl) (fun C hR => ?_)
    refine V_iload_1 d_ru_doWord_0 ?_
    refine V_tsi 83 d_ru_doWord_1 (by decide) (by decide) rfl (by decide) ?_
    refine V_aload_0 d_ru_doWord_83 ?_
    refine V_aload_0 d_ru_doWord_84 ?_
    refine V_cvI0 d_ru_doWord_85 ml_ru_150 mv_ru_pop (by decide) (Nat.le_of_ble_eq_true rfl) is_ru (ok_pop hK (by rw [List.length_cons]; omega)) ?_
    rintro x F ⟨rfl, k1, k2⟩
    refine V_aload_0 d_ru_doWord_88 ?_
    refine V_cvI0 d_ru_doWord_89 ml_ru_150 mv_ru_pop (by decide) (Nat.le_of_ble_eq_true rfl) is_ru (ok_pop k1 (by omega)) ?_
    rintro y F2 ⟨rfl, k3, k4⟩
    refine V_csI2 d_ru_doWord_92 ml_ru_135 ms_jm_min (by decide) (Nat.le_of_ble_eq_true rfl) (ok_min (by omega) (by omega)) ?_
    rintro _ f2 ⟨rfl, e2⟩
    rw [e2]; clear e2 f2
    refine V_cvV1 d_ru_doWord_95 ml_ru_146 mv_ru_push (by decide) (Nat.le_of_ble_eq_true rfl) is_ru (ok_push k3 (by omega)) ?_
    rintro F3 ⟨k5, k6⟩
    rw [show min x y = min y x by omega] at k5
    refine V_goto 111 d_ru_doWord_98 (by decide) ?_
    refine V_return d_ru_doWord_111 (hR _ ?_)
    exact ⟨k5, (k2.tr k4).tr k6⟩
  · skip
    rw [op2_14]
    refine OkV_of (L0 := [vr D 4, vi 17]) mi_ru_doWord rfl rfl (Nat.le_of_ble_eq_true rfl) (fun C hR => ?_)
    refine V_iload_1 d_ru_doWord_0 ?_
    refine V_tsi 83 d_ru_doWord_1 (by decide) (by decide) rfl (by decide) ?_
    refine V_aload_0 d_ru_doWord_83 ?_
    refine V_aload_0 d_ru_doWord_84 ?_
    refine V_cvI0 d_ru_doWord_85 ml_ru_150 mv_ru_pop (by decide) (Nat.le_of_ble_eq_true rfl) is_ru (ok_pop hK (by rw [List.length_cons]; omega)) ?_
    rintro x F ⟨rfl, k1, k2⟩
    refine V_aload_0 d_ru_doWord_88 ?_
    refine V_cvI0 d_ru_doWord_89 ml_ru_150 mv_ru_pop (by decide) (Nat.le_of_ble_eq_true rfl) is_ru (ok_pop k1 (by omega)) ?_
    rintro y F2 ⟨rfl, k3, k4⟩
    refine V_csI2 d_ru_doWord_92 ml_ru_135 ms_jm_min (by decide) (Nat.le_of_ble_eq_true rfl) (ok_min (by omega) (by omega)) ?_
    rintro _ f2 ⟨rfl, e2⟩
    rw [e2]; clear e2 f2
    refine V_cvV1 d_ru_doWord_95 ml_ru_146 mv_ru_push (by decide) (Nat.le_of_ble_eq_true rfl) is_ru (ok_push k3 (by omega)) ?_
    rintro F3 ⟨k5, k6⟩
    rw [show min x y = min y x by omega] at k5
    refine V_goto 111 d_ru_doWord_98 (by decide) ?_
    refine V_return d_ru_doWord_111 (hR _ ?_)
    exact ⟨k5, (k2.tr k4).tr k6⟩
/-- codes come to their value -/
theorem ok_reckon {L a c0 z : List Int} {v : Int} (hL : L = a ++ (c0 ++ z)) (hl : (L.length : Int) ≤ 1600) (hcd : ∀ k : Nat, k < L.length → f 5 k = ccd (L.getD k 0)) (hkn : knS f E) (hE : eB E) (hv : ev E c0 [] = some [v]) {n m : Int} (hn : n = a.length) (hm : m = (a.length : Int) + c0.length) : OkI D m_ru_reckon [vr D 4, vi n, vi m] (Zg g h) f (fun x f' => x = v ∧ kK f f') := by
  have hlen : (L.length : Int) = a.length + (c0.length + z.length) := by rw [hL, List.length_append, List.length_append]; push_cast; rfl
  refine OkI_of (L0 := [vr D 4, vi n, vi m, vu, vu]) mi_ru_reckon rfl rfl (Nat.le_of_ble_eq_true rfl) (fun C hR => ?_)
  have loop : ∀ (c p st : List Int) (F : q_F) (u : Value), L = p ++ (c ++ z) → m = (p.length : Int) + c.length → kS F st → bdL st → kK f F → ev E c st = some [v] → V D C m_ru_reckon 7 [vr D 4, vi n, vi m, vi (p.length : Int), u] [] (Zg g h) F := by
    intro c
    induction c with
    | nil =>
      intro p st F u hp hmp hK hb hk he
      have he : some st = some [v] := he
      have he : st = [v] := by cases he; rfl
      subst he
      have hmp : m = (p.length : Int) + 0 := hmp
      refine V_iload_3 d_ru_reckon_7 ?_
      refine V_iload_2 d_ru_reckon_8 ?_
      refine V_icmp_ge 76 d_ru_reckon_9 (by decide) (by omega) (by omega) (fun c9 => ?_) (fun c9 => by omega)
      refine V_aload_0 d_ru_reckon_76 ?_
      refine V_cvI0 d_ru_reckon_77 ml_ru_150 mv_ru_pop (by decide) (Nat.le_of_ble_eq_true rfl) is_ru (ok_pop hK (by decide)) ?_
      rintro x F2 ⟨rfl, k1, k2⟩
      refine V_ireturn d_ru_reckon_80 (hR _ _ ?_)
      exact ⟨rfl, hk.tr k2⟩
    | cons x c ih =>
      intro p st F u hp hmp hK hb hk he
      rw [List.length_cons] at hmp
      push_cast at hmp
      have hlp : (L.length : Int) = p.length + (c.length + 1 + z.length) := by rw [hp, List.length_append, List.length_append, List.length_cons]; push_cast; rfl
      have gx : L.getD p.length 0 = x := by rw [hp, List.getD_eq_getElem?_getD, List.getElem?_append_right (Nat.le_refl _), Nat.sub_self]; rfl
      have code : F 5 (p.length : Int) = ccd x := by rw [hk _ _ (by omega) (by omega), hcd p.length (by omega), gx]
      have kn := hkn.fr hk
      obtain ⟨hl60, st', he1, he2⟩ := ev_step he
      have hb' := ev1_bd hE hb he1
      have K70 : ∀ (F' : q_F) (u : Value), kS F' st' → kK f F' → V D C m_ru_reckon 70 [vr D 4, vi n, vi m, vi (p.length : Int), u] [] (Zg g h) F' := by
        intro F' u hK' hk'
        have hpp : ((p ++ [x]).length : Int) = p.length + 1 := by rw [List.length_append]; push_cast; rfl
        have := ih (p ++ [x]) st' F' u (by rw [hp]; simp only [List.append_assoc, List.cons_append, List.nil_append]) (by omega) hK' hb' hk' he2
        rw [hpp] at this
        refine V_iinc_3 d_ru_reckon_70 rfl ?_
        refine V_goto 7 d_ru_reckon_73 (by decide) ?_
        exact this
      have KP : ∀ (y : Int), 0 ≤ y → y ≤ 9999 → F 5 (p.length : Int) = y → st' = y :: st → V D C m_ru_reckon 7 [vr D 4, vi n, vi m, vi (p.length : Int), u] [] (Zg g h) F := by
        intro y y0 y1 hy hst
        refine V_iload_3 d_ru_reckon_7 ?_
        refine V_iload_2 d_ru_reckon_8 ?_
        refine V_icmp_ge 76 d_ru_reckon_9 (by decide) (by omega) (by omega) (fun c9 => by omega) (fun c9 => ?_)
        refine V_aload_0 d_ru_reckon_12 ?_
        refine V_getR d_ru_reckon_13 fl_ru_9 is_ru r_ru_code ?_
        refine V_iload_3 d_ru_reckon_16 ?_
        refine V_iald d_ru_reckon_17 is_ru_code (by omega) (by omega) ?_
        rw [hy]
        refine V_istore_4 d_ru_reckon_18 rfl ?_
        refine V_iload_4 d_ru_reckon_20 ?_
        refine V_if_lt 34 d_ru_reckon_22 (by decide) (by omega) (fun c22 => by omega) (fun c22 => ?_)
        refine V_aload_0 d_ru_reckon_25 ?_
        refine V_iload_4 d_ru_reckon_26 ?_
        refine V_cvV1 d_ru_reckon_28 ml_ru_146 mv_ru_push (by decide) (Nat.le_of_ble_eq_true rfl) is_ru (ok_push hK (by omega)) ?_
        rintro F2 ⟨k1, k2⟩
        refine V_goto 70 d_ru_reckon_31 (by decide) ?_
        exact K70 F2 _ (by rw [hst]; exact k1) (hk.tr k2)
      have KW : ∀ (w : Int), 0 ≤ w → w < 25 → F 5 (p.length : Int) = -200 - w → OkV D m_ru_doWord [vr D 4, vi w] (Zg g h) F (fun F' => kS F' st' ∧ kK F F') → V D C m_ru_reckon 7 [vr D 4, vi n, vi m, vi (p.length : Int), u] [] (Zg g h) F := by
        intro w w0 w1 hy hO
        refine V_iload_3 d_ru_reckon_7 ?_
        refine V_iload_2 d_ru_reckon_8 ?_
        refine V_icmp_ge 76 d_ru_reckon_9 (by decide) (by omega) (by omega) (fun c9 => by omega) (fun c9 => ?_)
        refine V_aload_0 d_ru_reckon_12 ?_
        refine V_getR d_ru_reckon_13 fl_ru_9 is_ru r_ru_code ?_
        refine V_iload_3 d_ru_reckon_16 ?_
        refine V_iald d_ru_reckon_17 is_ru_code (by omega) (by omega) ?_
        rw [hy]
        refine V_istore_4 d_ru_reckon_18 rfl ?_
        refine V_iload_4 d_ru_reckon_20 ?_
        refine V_if_lt 34 d_ru_reckon_22 (by decide) (by omega) (fun c22 => ?_) (fun c22 => by omega)
        refine V_iload_4 d_ru_reckon_34 ?_
        refine V_sipush (-200) d_ru_reckon_36 (by decide) ?_
        refine V_icmp_le 60 d_ru_reckon_39 (by decide) (by omega) (by omega) (fun c39 => ?_) (fun c39 => by omega)
        refine V_aload_0 d_ru_reckon_60 ?_
        refine V_sipush (-200) d_ru_reckon_61 (by decide) ?_
        refine V_iload_4 d_ru_reckon_64 ?_
        refine V_isub d_ru_reckon_66 ?_
        rw [show (-200 : Int) - (-200 - w) = w by omega]
        refine V_cvV1 d_ru_reckon_67 ml_ru_157 mv_ru_doWord (by decide) (Nat.le_of_ble_eq_true rfl) is_ru (hO) ?_
        rintro F2 ⟨k1, k2⟩
        exact K70 F2 _ k1 (hk.tr k2)
      have KS : ∀ (s y b' : Int) (s0 : List Int), 0 < s → s < 200 → F 5 (p.length : Int) = -s → st = b' :: y :: s0 → (∀ F2, kS F2 s0 → OkV D m_ru_doSign [vr D 4, vi s, vi b', vi y] (Zg g h) F2 (fun F' => kS F' st' ∧ kK F2 F')) → V D C m_ru_reckon 7 [vr D 4, vi n, vi m, vi (p.length : Int), u] [] (Zg g h) F := by
        intro s y b' s0 w0 w1 hy hst hO
        rw [hst] at hK hl60
        rw [List.length_cons, List.length_cons] at hl60
        refine V_iload_3 d_ru_reckon_7 ?_
        refine V_iload_2 d_ru_reckon_8 ?_
        refine V_icmp_ge 76 d_ru_reckon_9 (by decide) (by omega) (by omega) (fun c9 => by omega) (fun c9 => ?_)
        refine V_aload_0 d_ru_reckon_12 ?_
        refine V_getR d_ru_reckon_13 fl_ru_9 is_ru r_ru_code ?_
        refine V_iload_3 d_ru_reckon_16 ?_
        refine V_iald d_ru_reckon_17 is_ru_code (by omega) (by omega) ?_
        rw [hy]
        refine V_istore_4 d_ru_reckon_18 rfl ?_
        refine V_iload_4 d_ru_reckon_20 ?_
        refine V_if_lt 34 d_ru_reckon_22 (by decide) (by omega) (fun c22 => ?_) (fun c22 => by omega)
        refine V_iload_4 d_ru_reckon_34 ?_
        refine V_sipush (-200) d_ru_reckon_36 (by decide) ?_
        refine V_icmp_le 60 d_ru_reckon_39 (by decide) (by omega) (by omega) (fun c39 => by omega) (fun c39 => ?_)
        refine V_aload_0 d_ru_reckon_42 ?_
        refine V_iload_4 d_ru_reckon_43 ?_
        refine V_ineg d_ru_reckon_45 ?_
        rw [Int.neg_neg]
        refine V_aload_0 d_ru_reckon_46 ?_
        refine V_cvI0 d_ru_reckon_47 ml_ru_150 mv_ru_pop (by decide) (Nat.le_of_ble_eq_true rfl) is_ru (ok_pop hK (by rw [List.length_cons]; omega)) ?_
        rintro x' F2 ⟨rfl, k1, k2⟩
        refine V_aload_0 d_ru_reckon_50 ?_
        refine V_cvI0 d_ru_reckon_51 ml_ru_150 mv_ru_pop (by decide) (Nat.le_of_ble_eq_true rfl) is_ru (ok_pop k1 (by omega)) ?_
        rintro y' F3 ⟨rfl, k3, k4⟩
        refine V_cvV3 d_ru_reckon_54 ml_ru_153 mv_ru_doSign (by decide) (Nat.le_of_ble_eq_true rfl) is_ru (hO F3 k3) ?_
        rintro F4 ⟨k5, k6⟩
        refine V_goto 70 d_ru_reckon_57 (by decide) ?_
        exact K70 F4 _ k5 (((hk.tr k2).tr k4).tr k6)
      obtain ⟨n1, n2, n3, n4, n5, n6, n7⟩ := kn
      rcases ev1_cases he1 with ⟨h1, e1⟩ | ⟨h1, e1⟩ | ⟨h1, e1⟩ | ⟨h1, b', s, hs, h2, e1⟩ | ⟨b', a', s, hs, h2, e1⟩
      · exact KP (x - 1000) (by omega) (by omega) (by rw [code]; unfold ccd; rw [if_pos h1.1]) e1
      · rw [h1] at code
        rw [e1] at KW
        exact KW 19 (by decide) (by decide) (by rw [code]; rfl) (ok_doWord1 hK hl60 (by omega) n7)
      · have g : ∀ (w k : Int), x = k → (w = 3 ∨ w = 9 ∨ w = 10 ∨ w = 19 ∨ w = 20 ∨ w = 21 ∨ w = 22) → ccd k = -200 - w → F 8 w = E k → V D C m_ru_reckon 7 [vr D 4, vi n, vi m, vi (p.length : Int), u] [] (Zg g h) F := fun w k hx hw hc hf => by
          rw [hx] at code
          rw [e1, hx] at KW
          exact KW w (by omega) (by omega) (by rw [code, hc]) (ok_doWord1 hK hl60 hw hf)
        rcases (show x = 7 ∨ x = 8 ∨ x = 9 ∨ x = 10 ∨ x = 18 ∨ x = 19 by unfold isWd at h1; omega) with e | e | e | e | e | e
        · exact g 3 7 e (by omega) rfl n1
        · exact g 9 8 e (by omega) rfl n2
        · exact g 10 9 e (by omega) rfl n3
        · exact g 20 10 e (by omega) rfl n4
        · exact g 21 18 e (by omega) rfl n5
        · exact g 22 19 e (by omega) rfl n6
      · rw [h1] at code
        rw [e1] at KW
        rw [hs] at hK hl60
        rw [List.length_cons] at hl60
        exact KW 18 (by decide) (by decide) (by rw [code]; rfl) (ok_doNot hK (by omega))
      · have hbb : bd6 b' := hb b' (by rw [hs]; exact List.mem_cons_self ..)
        have hba : bd6 a' := hb a' (by rw [hs]; exact List.mem_cons_of_mem _ (List.mem_cons_self ..))
        have hl2 : s.length < 60 := by rw [hs, List.length_cons, List.length_cons] at hl60; omega
        have gs : ∀ (w k : Int), x = k → (0 < w ∧ w < 200) → ccd k = -w → ((w = 43 ∧ k = 1) ∨ (w = 45 ∧ k = 2) ∨ (w = 42 ∧ k = 3) ∨ (w = 47 ∧ k = 4) ∨ (w = 60 ∧ k = 11) ∨ (w = 62 ∧ k = 12) ∨ (w = 61 ∧ k = 13)) → V D C m_ru_reckon 7 [vr D 4, vi n, vi m, vi (p.length : Int), u] [] (Zg g h) F := fun w k hx hw hc ho => by
          rw [hx] at code
          rw [e1, hx] at KS
          exact KS w a' b' s hw.1 hw.2 (by rw [code, hc]) hs (fun F2 hK2 => ok_doSign hK2 hl2 hba hbb ho)
        have gw : ∀ (w k : Int), x = k → (0 ≤ w ∧ w < 25) → ccd k = -200 - w → ((w = 24 ∧ k = 6) ∨ (w = 16 ∧ k = 15) ∨ (w = 23 ∧ k = 5) ∨ (w = 17 ∧ k = 14)) → V D C m_ru_reckon 7 [vr D 4, vi n, vi m, vi (p.length : Int), u] [] (Zg g h) F := fun w k hx hw hc ho => by
          rw [hx] at code
          rw [e1, hx] at KW
          rw [hs] at hK
          exact KW w hw.1 hw.2 (by rw [code, hc]) (ok_doMM hK hl2 hba hbb ho)
        rcases (show x = 1 ∨ x = 2 ∨ x = 3 ∨ x = 4 ∨ x = 11 ∨ x = 12 ∨ x = 13 ∨ x = 6 ∨ x = 15 ∨ x = 5 ∨ x = 14 by unfold isOp at h2; omega) with e | e | e | e | e | e | e | e | e | e | e
        · exact gs 43 1 e (by omega) rfl (by omega)
        · exact gs 45 2 e (by omega) rfl (by omega)
        · exact gs 42 3 e (by omega) rfl (by omega)
        · exact gs 47 4 e (by omega) rfl (by omega)
        · exact gs 60 11 e (by omega) rfl (by omega)
        · exact gs 62 12 e (by omega) rfl (by omega)
        · exact gs 61 13 e (by omega) rfl (by omega)
        · exact gw 24 6 e (by omega) rfl (by omega)
        · exact gw 16 15 e (by omega) rfl (by omega)
        · exact gw 23 5 e (by omega) rfl (by omega)
        · exact gw 17 14 e (by omega) rfl (by omega)
  rw [hn]
  rw [hn] at loop
  refine V_aload_0 d_ru_reckon_0 ?_
  refine V_iconst 0 d_ru_reckon_1 ?_
  refine V_putI d_ru_reckon_2 fl_ru_143 is_ru ?_
  refine V_iload_1 d_ru_reckon_5 ?_
  refine V_istore_3 d_ru_reckon_6 rfl ?_
  exact loop c0 a [] _ _ hL hm ⟨by rw [q_up_eq]; rfl, fun i hi => absurd hi (Nat.not_lt_zero _)⟩ (fun x hx => by cases hx) (fun j k h1 h2 => q_up_ne (by omega)) hv
end RCK2
