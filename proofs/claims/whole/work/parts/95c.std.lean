/-! the reference: what was read stands -/
section STD
variable {D : q_D} {C : q_C} {f f' f'' S : q_F} {A : q_As} {g h : Int} {L : List Int} {a b d : Value}
theorem st_many : ∀ (m : Nat) (k : Int) (F : q_F), k + m = 7 → 0 ≤ k → (∀ F' : q_F, (∀ j i, ¬ (j = 246 ∧ 7 + k ≤ i) → F' j i = F j i) → (∀ i, k ≤ i → i < 7 → F' 246 (7 + i) = F 246 i) → V D C m_mo_stands 29 [vr D 219, vi 7, a, b, d] [] (Zg g h) F') → V D C m_mo_stands 2 [vr D 219, vi k, a, b, d] [] (Zg g h) F := by
  intro m
  induction m with
  | zero =>
    intro k F km k0 K
    refine V_iload_1 d_mo_stands_2 ?_
    refine V_bipush 7 d_mo_stands_3 (by decide) ?_
    refine V_icmp_ge 29 d_mo_stands_5 (by decide) (by omega) (by omega) (fun c5 => ?_) (fun c5 => by omega)
    rw [show k = 7 by omega]
    exact K F (fun _ _ _ => rfl) (fun i i0 i1 => by omega)
  | succ m ih =>
    intro k F km k0 K
    refine V_iload_1 d_mo_stands_2 ?_
    refine V_bipush 7 d_mo_stands_3 (by decide) ?_
    refine V_icmp_ge 29 d_mo_stands_5 (by decide) (by omega) (by omega) (fun c5 => by omega) (fun c5 => ?_)
    refine V_aload_0 d_mo_stands_8 ?_
    refine V_getR d_mo_stands_9 fl_mo_93 is_mo r_mo_many ?_
    refine V_bipush 7 d_mo_stands_12 (by decide) ?_
    refine V_iload_1 d_mo_stands_14 ?_
    refine V_iadd d_mo_stands_15 ?_
    refine V_aload_0 d_mo_stands_16 ?_
    refine V_getR d_mo_stands_17 fl_mo_93 is_mo r_mo_many ?_
    refine V_iload_1 d_mo_stands_20 ?_
    refine V_iald d_mo_stands_21 is_mo_many (by omega) (by omega) ?_
    refine V_iast d_mo_stands_22 is_mo_many (by omega) (by omega) ?_
    refine V_iinc_1 d_mo_stands_23 rfl ?_
    refine V_goto 2 d_mo_stands_26 (by decide) ?_
    refine ih _ _ (by omega) (by omega) (fun F' h1 h2 => K F' (fun j i hj => ?_) (fun i i0 i1 => ?_))
    · rw [h1 j i (by omega), q_up_ne (by omega)]
    · by_cases ei : i = k
      · rw [ei, h1 _ _ (by omega), q_up_eq]
      · rw [h2 i (by omega) i1, q_up_ne (by omega)]
theorem st_names : ∀ (m : Nat) (k : Int) (F : q_F), k + m = 32 → 0 ≤ k → (∀ F' : q_F, (∀ j i, ¬ (j = 247 ∧ 32 + k ≤ i) → F' j i = F j i) → (∀ i, k ≤ i → i < 32 → F' 247 (32 + i) = F 247 i) → V D C m_mo_stands 58 [vr D 219, vi 32, a, b, d] [] (Zg g h) F') → V D C m_mo_stands 31 [vr D 219, vi k, a, b, d] [] (Zg g h) F := by
  intro m
  induction m with
  | zero =>
    intro k F km k0 K
    refine V_iload_1 d_mo_stands_31 ?_
    refine V_bipush 32 d_mo_stands_32 (by decide) ?_
    refine V_icmp_ge 58 d_mo_stands_34 (by decide) (by omega) (by omega) (fun c34 => ?_) (fun c34 => by omega)
    rw [show k = 32 by omega]
    exact K F (fun _ _ _ => rfl) (fun i i0 i1 => by omega)
  | succ m ih =>
    intro k F km k0 K
    refine V_iload_1 d_mo_stands_31 ?_
    refine V_bipush 32 d_mo_stands_32 (by decide) ?_
    refine V_icmp_ge 58 d_mo_stands_34 (by decide) (by omega) (by omega) (fun c34 => by omega) (fun c34 => ?_)
    refine V_aload_0 d_mo_stands_37 ?_
    refine V_getR d_mo_stands_38 fl_mo_96 is_mo r_mo_names ?_
    refine V_bipush 32 d_mo_stands_41 (by decide) ?_
    refine V_iload_1 d_mo_stands_43 ?_
    refine V_iadd d_mo_stands_44 ?_
    refine V_aload_0 d_mo_stands_45 ?_
    refine V_getR d_mo_stands_46 fl_mo_96 is_mo r_mo_names ?_
    refine V_iload_1 d_mo_stands_49 ?_
    refine V_lald d_mo_stands_50 is_mo_names (by omega) (by omega) ?_
    refine V_last d_mo_stands_51 is_mo_names (by omega) (by omega) ?_
    refine V_iinc_1 d_mo_stands_52 rfl ?_
    refine V_goto 31 d_mo_stands_55 (by decide) ?_
    refine ih _ _ (by omega) (by omega) (fun F' h1 h2 => K F' (fun j i hj => ?_) (fun i i0 i1 => ?_))
    · rw [h1 j i (by omega), q_up_ne (by omega)]
    · by_cases ei : i = k
      · rw [ei, h1 _ _ (by omega), q_up_eq]
      · rw [h2 i (by omega) i1, q_up_ne (by omega)]
theorem st_shows : ∀ (m : Nat) (k : Int) (F : q_F), k + m = 12 → 0 ≤ k → (∀ F' : q_F, (∀ j i, ¬ (j = 248 ∧ 12 + k ≤ i) → F' j i = F j i) → (∀ i, k ≤ i → i < 12 → F' 248 (12 + i) = F 248 i) → V D C m_mo_stands 87 [vr D 219, vi 12, a, b, d] [] (Zg g h) F') → V D C m_mo_stands 60 [vr D 219, vi k, a, b, d] [] (Zg g h) F := by
  intro m
  induction m with
  | zero =>
    intro k F km k0 K
    refine V_iload_1 d_mo_stands_60 ?_
    refine V_bipush 12 d_mo_stands_61 (by decide) ?_
    refine V_icmp_ge 87 d_mo_stands_63 (by decide) (by omega) (by omega) (fun c63 => ?_) (fun c63 => by omega)
    rw [show k = 12 by omega]
    exact K F (fun _ _ _ => rfl) (fun i i0 i1 => by omega)
  | succ m ih =>
    intro k F km k0 K
    refine V_iload_1 d_mo_stands_60 ?_
    refine V_bipush 12 d_mo_stands_61 (by decide) ?_
    refine V_icmp_ge 87 d_mo_stands_63 (by decide) (by omega) (by omega) (fun c63 => by omega) (fun c63 => ?_)
    refine V_aload_0 d_mo_stands_66 ?_
    refine V_getR d_mo_stands_67 fl_mo_100 is_mo r_mo_shows ?_
    refine V_bipush 12 d_mo_stands_70 (by decide) ?_
    refine V_iload_1 d_mo_stands_72 ?_
    refine V_iadd d_mo_stands_73 ?_
    refine V_aload_0 d_mo_stands_74 ?_
    refine V_getR d_mo_stands_75 fl_mo_100 is_mo r_mo_shows ?_
    refine V_iload_1 d_mo_stands_78 ?_
    refine V_iald d_mo_stands_79 is_mo_shows (by omega) (by omega) ?_
    refine V_iast d_mo_stands_80 is_mo_shows (by omega) (by omega) ?_
    refine V_iinc_1 d_mo_stands_81 rfl ?_
    refine V_goto 60 d_mo_stands_84 (by decide) ?_
    refine ih _ _ (by omega) (by omega) (fun F' h1 h2 => K F' (fun j i hj => ?_) (fun i i0 i1 => ?_))
    · rw [h1 j i (by omega), q_up_ne (by omega)]
    · by_cases ei : i = k
      · rw [ei, h1 _ _ (by omega), q_up_eq]
      · rw [h2 i (by omega) i1, q_up_ne (by omega)]
theorem st_looks : ∀ (m : Nat) (k : Int) (F : q_F), k + m = 48 → 0 ≤ k → (∀ F' : q_F, (∀ j i, ¬ (j = 249 ∧ 48 + k ≤ i) → F' j i = F j i) → (∀ i, k ≤ i → i < 48 → F' 249 (48 + i) = F 249 i) → V D C m_mo_stands 116 [vr D 219, vi 48, a, b, d] [] (Zg g h) F') → V D C m_mo_stands 89 [vr D 219, vi k, a, b, d] [] (Zg g h) F := by
  intro m
  induction m with
  | zero =>
    intro k F km k0 K
    refine V_iload_1 d_mo_stands_89 ?_
    refine V_bipush 48 d_mo_stands_90 (by decide) ?_
    refine V_icmp_ge 116 d_mo_stands_92 (by decide) (by omega) (by omega) (fun c92 => ?_) (fun c92 => by omega)
    rw [show k = 48 by omega]
    exact K F (fun _ _ _ => rfl) (fun i i0 i1 => by omega)
  | succ m ih =>
    intro k F km k0 K
    refine V_iload_1 d_mo_stands_89 ?_
    refine V_bipush 48 d_mo_stands_90 (by decide) ?_
    refine V_icmp_ge 116 d_mo_stands_92 (by decide) (by omega) (by omega) (fun c92 => by omega) (fun c92 => ?_)
    refine V_aload_0 d_mo_stands_95 ?_
    refine V_getR d_mo_stands_96 fl_mo_103 is_mo r_mo_personHas ?_
    refine V_bipush 48 d_mo_stands_99 (by decide) ?_
    refine V_iload_1 d_mo_stands_101 ?_
    refine V_iadd d_mo_stands_102 ?_
    refine V_aload_0 d_mo_stands_103 ?_
    refine V_getR d_mo_stands_104 fl_mo_103 is_mo r_mo_personHas ?_
    refine V_iload_1 d_mo_stands_107 ?_
    refine V_iald d_mo_stands_108 is_mo_personHas (by omega) (by omega) ?_
    refine V_iast d_mo_stands_109 is_mo_personHas (by omega) (by omega) ?_
    refine V_iinc_1 d_mo_stands_110 rfl ?_
    refine V_goto 89 d_mo_stands_113 (by decide) ?_
    refine ih _ _ (by omega) (by omega) (fun F' h1 h2 => K F' (fun j i hj => ?_) (fun i i0 i1 => ?_))
    · rw [h1 j i (by omega), q_up_ne (by omega)]
    · by_cases ei : i = k
      · rw [ei, h1 _ _ (by omega), q_up_eq]
      · rw [h2 i (by omega) i1, q_up_ne (by omega)]
theorem st_fees : ∀ (m : Nat) (k : Int) (F : q_F), k + m = 5 → 0 ≤ k → (∀ F' : q_F, (∀ j i, ¬ (j = 252 ∧ 5 + k ≤ i) → F' j i = F j i) → (∀ i, k ≤ i → i < 5 → F' 252 (5 + i) = F 252 i) → V D C m_mo_stands 187 [vr D 219, vi 5, a, b, d] [] (Zg g h) F') → V D C m_mo_stands 162 [vr D 219, vi k, a, b, d] [] (Zg g h) F := by
  intro m
  induction m with
  | zero =>
    intro k F km k0 K
    refine V_iload_1 d_mo_stands_162 ?_
    refine V_iconst 5 d_mo_stands_163 ?_
    refine V_icmp_ge 187 d_mo_stands_164 (by decide) (by omega) (by omega) (fun c164 => ?_) (fun c164 => by omega)
    rw [show k = 5 by omega]
    exact K F (fun _ _ _ => rfl) (fun i i0 i1 => by omega)
  | succ m ih =>
    intro k F km k0 K
    refine V_iload_1 d_mo_stands_162 ?_
    refine V_iconst 5 d_mo_stands_163 ?_
    refine V_icmp_ge 187 d_mo_stands_164 (by decide) (by omega) (by omega) (fun c164 => by omega) (fun c164 => ?_)
    refine V_aload_0 d_mo_stands_167 ?_
    refine V_getR d_mo_stands_168 fl_mo_112 is_mo r_mo_fees ?_
    refine V_iconst 5 d_mo_stands_171 ?_
    refine V_iload_1 d_mo_stands_172 ?_
    refine V_iadd d_mo_stands_173 ?_
    refine V_aload_0 d_mo_stands_174 ?_
    refine V_getR d_mo_stands_175 fl_mo_112 is_mo r_mo_fees ?_
    refine V_iload_1 d_mo_stands_178 ?_
    refine V_iald d_mo_stands_179 is_mo_fees (by omega) (by omega) ?_
    refine V_iast d_mo_stands_180 is_mo_fees (by omega) (by omega) ?_
    refine V_iinc_1 d_mo_stands_181 rfl ?_
    refine V_goto 162 d_mo_stands_184 (by decide) ?_
    refine ih _ _ (by omega) (by omega) (fun F' h1 h2 => K F' (fun j i hj => ?_) (fun i i0 i1 => ?_))
    · rw [h1 j i (by omega), q_up_ne (by omega)]
    · by_cases ei : i = k
      · rw [ei, h1 _ _ (by omega), q_up_eq]
      · rw [h2 i (by omega) i1, q_up_ne (by omega)]
theorem st_roads : ∀ (m : Nat) (k : Int) (F : q_F), k + m = 64 → 0 ≤ k → (∀ F' : q_F, (∀ j i, ¬ (j = 253 ∧ 64 + k ≤ i) → F' j i = F j i) → (∀ i, k ≤ i → i < 64 → F' 253 (64 + i) = F 253 i) → V D C m_mo_stands 216 [vr D 219, vi 64, a, b, d] [] (Zg g h) F') → V D C m_mo_stands 189 [vr D 219, vi k, a, b, d] [] (Zg g h) F := by
  intro m
  induction m with
  | zero =>
    intro k F km k0 K
    refine V_iload_1 d_mo_stands_189 ?_
    refine V_bipush 64 d_mo_stands_190 (by decide) ?_
    refine V_icmp_ge 216 d_mo_stands_192 (by decide) (by omega) (by omega) (fun c192 => ?_) (fun c192 => by omega)
    rw [show k = 64 by omega]
    exact K F (fun _ _ _ => rfl) (fun i i0 i1 => by omega)
  | succ m ih =>
    intro k F km k0 K
    refine V_iload_1 d_mo_stands_189 ?_
    refine V_bipush 64 d_mo_stands_190 (by decide) ?_
    refine V_icmp_ge 216 d_mo_stands_192 (by decide) (by omega) (by omega) (fun c192 => by omega) (fun c192 => ?_)
    refine V_aload_0 d_mo_stands_195 ?_
    refine V_getR d_mo_stands_196 fl_mo_115 is_mo r_mo_roads ?_
    refine V_bipush 64 d_mo_stands_199 (by decide) ?_
    refine V_iload_1 d_mo_stands_201 ?_
    refine V_iadd d_mo_stands_202 ?_
    refine V_aload_0 d_mo_stands_203 ?_
    refine V_getR d_mo_stands_204 fl_mo_115 is_mo r_mo_roads ?_
    refine V_iload_1 d_mo_stands_207 ?_
    refine V_iald d_mo_stands_208 is_mo_roads (by omega) (by omega) ?_
    refine V_iast d_mo_stands_209 is_mo_roads (by omega) (by omega) ?_
    refine V_iinc_1 d_mo_stands_210 rfl ?_
    refine V_goto 189 d_mo_stands_213 (by decide) ?_
    refine ih _ _ (by omega) (by omega) (fun F' h1 h2 => K F' (fun j i hj => ?_) (fun i i0 i1 => ?_))
    · rw [h1 j i (by omega), q_up_ne (by omega)]
    · by_cases ei : i = k
      · rw [ei, h1 _ _ (by omega), q_up_eq]
      · rw [h2 i (by omega) i1, q_up_ne (by omega)]
theorem st_sight : ∀ (m : Nat) (k : Int) (F : q_F), k + m = 120 → 0 ≤ k → (∀ F' : q_F, (∀ j i, ¬ (j = 254 ∧ 120 + k ≤ i) → F' j i = F j i) → (∀ i, k ≤ i → i < 120 → F' 254 (120 + i) = F 254 i) → V D C m_mo_stands 245 [vr D 219, vi 120, a, b, d] [] (Zg g h) F') → V D C m_mo_stands 218 [vr D 219, vi k, a, b, d] [] (Zg g h) F := by
  intro m
  induction m with
  | zero =>
    intro k F km k0 K
    refine V_iload_1 d_mo_stands_218 ?_
    refine V_bipush 120 d_mo_stands_219 (by decide) ?_
    refine V_icmp_ge 245 d_mo_stands_221 (by decide) (by omega) (by omega) (fun c221 => ?_) (fun c221 => by omega)
    rw [show k = 120 by omega]
    exact K F (fun _ _ _ => rfl) (fun i i0 i1 => by omega)
  | succ m ih =>
    intro k F km k0 K
    refine V_iload_1 d_mo_stands_218 ?_
    refine V_bipush 120 d_mo_stands_219 (by decide) ?_
    refine V_icmp_ge 245 d_mo_stands_221 (by decide) (by omega) (by omega) (fun c221 => by omega) (fun c221 => ?_)
    refine V_aload_0 d_mo_stands_224 ?_
    refine V_getR d_mo_stands_225 fl_mo_118 is_mo r_mo_sighted ?_
    refine V_bipush 120 d_mo_stands_228 (by decide) ?_
    refine V_iload_1 d_mo_stands_230 ?_
    refine V_iadd d_mo_stands_231 ?_
    refine V_aload_0 d_mo_stands_232 ?_
    refine V_getR d_mo_stands_233 fl_mo_118 is_mo r_mo_sighted ?_
    refine V_iload_1 d_mo_stands_236 ?_
    refine V_iald d_mo_stands_237 is_mo_sighted (by omega) (by omega) ?_
    refine V_iast d_mo_stands_238 is_mo_sighted (by omega) (by omega) ?_
    refine V_iinc_1 d_mo_stands_239 rfl ?_
    refine V_goto 218 d_mo_stands_242 (by decide) ?_
    refine ih _ _ (by omega) (by omega) (fun F' h1 h2 => K F' (fun j i hj => ?_) (fun i i0 i1 => ?_))
    · rw [h1 j i (by omega), q_up_ne (by omega)]
    · by_cases ei : i = k
      · rw [ei, h1 _ _ (by omega), q_up_eq]
      · rw [h2 i (by omega) i1, q_up_ne (by omega)]
theorem st_owns : ∀ (m : Nat) (k : Int) (F : q_F), k + m = 30 → 0 ≤ k → (∀ F' : q_F, (∀ j i, ¬ ((j = 250 ∨ j = 251) ∧ 30 + k ≤ i) → F' j i = F j i) → (∀ i, k ≤ i → i < 30 → F' 250 (30 + i) = F 250 i ∧ F' 251 (30 + i) = F 251 i) → V D C m_mo_stands 160 [vr D 219, vi 30, a, b, d] [] (Zg g h) F') → V D C m_mo_stands 118 [vr D 219, vi k, a, b, d] [] (Zg g h) F := by
  intro m
  induction m with
  | zero =>
    intro k F km k0 K
    refine V_iload_1 d_mo_stands_118 ?_
    refine V_bipush 30 d_mo_stands_119 (by decide) ?_
    refine V_icmp_ge 160 d_mo_stands_121 (by decide) (by omega) (by omega) (fun c121 => ?_) (fun c121 => by omega)
    rw [show k = 30 by omega]
    exact K F (fun _ _ _ => rfl) (fun i i0 i1 => by omega)
  | succ m ih =>
    intro k F km k0 K
    refine V_iload_1 d_mo_stands_118 ?_
    refine V_bipush 30 d_mo_stands_119 (by decide) ?_
    refine V_icmp_ge 160 d_mo_stands_121 (by decide) (by omega) (by omega) (fun c121 => by omega) (fun c121 => ?_)
    refine V_aload_0 d_mo_stands_124 ?_
    refine V_getR d_mo_stands_125 fl_mo_106 is_mo r_mo_shadeHas ?_
    refine V_bipush 30 d_mo_stands_128 (by decide) ?_
    refine V_iload_1 d_mo_stands_130 ?_
    refine V_iadd d_mo_stands_131 ?_
    refine V_aload_0 d_mo_stands_132 ?_
    refine V_getR d_mo_stands_133 fl_mo_106 is_mo r_mo_shadeHas ?_
    refine V_iload_1 d_mo_stands_136 ?_
    refine V_iald d_mo_stands_137 is_mo_shadeHas (by omega) (by omega) ?_
    refine V_iast d_mo_stands_138 is_mo_shadeHas (by omega) (by omega) ?_
    refine V_aload_0 d_mo_stands_139 ?_
    refine V_getR d_mo_stands_140 fl_mo_109 is_mo r_mo_fakes ?_
    refine V_bipush 30 d_mo_stands_143 (by decide) ?_
    refine V_iload_1 d_mo_stands_145 ?_
    refine V_iadd d_mo_stands_146 ?_
    refine V_aload_0 d_mo_stands_147 ?_
    refine V_getR d_mo_stands_148 fl_mo_109 is_mo r_mo_fakes ?_
    refine V_iload_1 d_mo_stands_151 ?_
    refine V_iald d_mo_stands_152 is_mo_fakes (by omega) (by omega) ?_
    rw [q_up_ne (by omega)]
    refine V_iast d_mo_stands_153 is_mo_fakes (by omega) (by omega) ?_
    refine V_iinc_1 d_mo_stands_154 rfl ?_
    refine V_goto 118 d_mo_stands_157 (by decide) ?_
    refine ih _ _ (by omega) (by omega) (fun F' h1 h2 => K F' (fun j i hj => ?_) (fun i i0 i1 => ?_))
    · rw [h1 j i (by omega), q_up_ne (by omega), q_up_ne (by omega)]
    · by_cases ei : i = k
      · rw [ei, h1 _ _ (by omega), h1 _ _ (by omega), q_up_eq, q_up_ne (by omega), q_up_eq]; exact ⟨rfl, rfl⟩
      · have := h2 i (by omega) i1
        rw [this.1, this.2, q_up_ne (by omega), q_up_ne (by omega), q_up_ne (by omega), q_up_ne (by omega)]; exact ⟨rfl, rfl⟩
theorem st_rules : ∀ (m : Nat) (k : Int) (F : q_F), k + m = 6 → 0 ≤ k → (∀ F' : q_F, (∀ j i, ¬ ((257 ≤ j ∧ j ≤ 259) ∧ 6 + k ≤ i) → F' j i = F j i) → (∀ i, k ≤ i → i < 6 → F' 257 (6 + i) = F 257 i ∧ F' 258 (6 + i) = F 258 i ∧ F' 259 (6 + i) = F 259 i) → V D C m_mo_stands 312 [vr D 219, vi 6, a, b, d] [] (Zg g h) F') → V D C m_mo_stands 255 [vr D 219, vi k, a, b, d] [] (Zg g h) F := by
  intro m
  induction m with
  | zero =>
    intro k F km k0 K
    refine V_iload_1 d_mo_stands_255 ?_
    refine V_bipush 6 d_mo_stands_256 (by decide) ?_
    refine V_icmp_ge 312 d_mo_stands_258 (by decide) (by omega) (by omega) (fun c258 => ?_) (fun c258 => by omega)
    rw [show k = 6 by omega]
    exact K F (fun _ _ _ => rfl) (fun i i0 i1 => by omega)
  | succ m ih =>
    intro k F km k0 K
    refine V_iload_1 d_mo_stands_255 ?_
    refine V_bipush 6 d_mo_stands_256 (by decide) ?_
    refine V_icmp_ge 312 d_mo_stands_258 (by decide) (by omega) (by omega) (fun c258 => by omega) (fun c258 => ?_)
    refine V_aload_0 d_mo_stands_261 ?_
    refine V_getR d_mo_stands_262 fl_mo_127 is_mo r_mo_sumFrom ?_
    refine V_bipush 6 d_mo_stands_265 (by decide) ?_
    refine V_iload_1 d_mo_stands_267 ?_
    refine V_iadd d_mo_stands_268 ?_
    refine V_aload_0 d_mo_stands_269 ?_
    refine V_getR d_mo_stands_270 fl_mo_127 is_mo r_mo_sumFrom ?_
    refine V_iload_1 d_mo_stands_273 ?_
    refine V_iald d_mo_stands_274 is_mo_sumFrom (by omega) (by omega) ?_
    refine V_iast d_mo_stands_275 is_mo_sumFrom (by omega) (by omega) ?_
    refine V_aload_0 d_mo_stands_276 ?_
    refine V_getR d_mo_stands_277 fl_mo_130 is_mo r_mo_sumEnd ?_
    refine V_bipush 6 d_mo_stands_280 (by decide) ?_
    refine V_iload_1 d_mo_stands_282 ?_
    refine V_iadd d_mo_stands_283 ?_
    refine V_aload_0 d_mo_stands_284 ?_
    refine V_getR d_mo_stands_285 fl_mo_130 is_mo r_mo_sumEnd ?_
    refine V_iload_1 d_mo_stands_288 ?_
    refine V_iald d_mo_stands_289 is_mo_sumEnd (by omega) (by omega) ?_
    rw [q_up_ne (by omega)]
    refine V_iast d_mo_stands_290 is_mo_sumEnd (by omega) (by omega) ?_
    refine V_aload_0 d_mo_stands_291 ?_
    refine V_getR d_mo_stands_292 fl_mo_133 is_mo r_mo_testEnd ?_
    refine V_bipush 6 d_mo_stands_295 (by decide) ?_
    refine V_iload_1 d_mo_stands_297 ?_
    refine V_iadd d_mo_stands_298 ?_
    refine V_aload_0 d_mo_stands_299 ?_
    refine V_getR d_mo_stands_300 fl_mo_133 is_mo r_mo_testEnd ?_
    refine V_iload_1 d_mo_stands_303 ?_
    refine V_iald d_mo_stands_304 is_mo_testEnd (by omega) (by omega) ?_
    rw [q_up_ne (by omega), q_up_ne (by omega)]
    refine V_iast d_mo_stands_305 is_mo_testEnd (by omega) (by omega) ?_
    refine V_iinc_1 d_mo_stands_306 rfl ?_
    refine V_goto 255 d_mo_stands_309 (by decide) ?_
    refine ih _ _ (by omega) (by omega) (fun F' h1 h2 => K F' (fun j i hj => ?_) (fun i i0 i1 => ?_))
    · rw [h1 j i (by omega), q_up_ne (by omega), q_up_ne (by omega), q_up_ne (by omega)]
    · by_cases ei : i = k
      · rw [ei, h1 _ _ (by omega), h1 _ _ (by omega), h1 _ _ (by omega)]
        refine ⟨?_, ?_, ?_⟩
        · rw [q_up_ne (by omega), q_up_ne (by omega), q_up_eq]
        · rw [q_up_ne (by omega), q_up_eq]
        · rw [q_up_eq]
      · have := h2 i (by omega) i1
        rw [this.1, this.2.1, this.2.2]
        refine ⟨?_, ?_, ?_⟩
        · rw [q_up_ne (by omega), q_up_ne (by omega), q_up_ne (by omega)]
        · rw [q_up_ne (by omega), q_up_ne (by omega), q_up_ne (by omega)]
        · rw [q_up_ne (by omega), q_up_ne (by omega), q_up_ne (by omega)]
theorem st_codes {n : Int} (hn : n ≤ 1600) : ∀ (m : Nat) (k : Int) (F : q_F), k + m = n → 0 ≤ k → F 219 48 = n → (∀ F' : q_F, (∀ j i, ¬ (j = 255 ∧ 1600 + k ≤ i) → F' j i = F j i) → (∀ i, k ≤ i → i < n → F' 255 (1600 + i) = F 255 i) → V D C m_mo_stands 344 [vr D 219, vi n, a, b, d] [] (Zg g h) F') → V D C m_mo_stands 314 [vr D 219, vi k, a, b, d] [] (Zg g h) F := by
  intro m
  induction m with
  | zero =>
    intro k F km k0 hc K
    refine V_iload_1 d_mo_stands_314 ?_
    refine V_aload_0 d_mo_stands_315 ?_
    refine V_getI d_mo_stands_316 fl_mo_274 is_mo ?_
    rw [hc]
    refine V_icmp_ge 344 d_mo_stands_319 (by decide) (by omega) (by omega) (fun c319 => ?_) (fun c319 => by omega)
    rw [show k = n by omega]
    exact K F (fun _ _ _ => rfl) (fun i i0 i1 => by omega)
  | succ m ih =>
    intro k F km k0 hc K
    refine V_iload_1 d_mo_stands_314 ?_
    refine V_aload_0 d_mo_stands_315 ?_
    refine V_getI d_mo_stands_316 fl_mo_274 is_mo ?_
    rw [hc]
    refine V_icmp_ge 344 d_mo_stands_319 (by decide) (by omega) (by omega) (fun c319 => by omega) (fun c319 => ?_)
    refine V_aload_0 d_mo_stands_322 ?_
    refine V_getR d_mo_stands_323 fl_mo_121 is_mo r_mo_codes ?_
    refine V_sipush 1600 d_mo_stands_326 (by decide) ?_
    refine V_iload_1 d_mo_stands_329 ?_
    refine V_iadd d_mo_stands_330 ?_
    refine V_aload_0 d_mo_stands_331 ?_
    refine V_getR d_mo_stands_332 fl_mo_121 is_mo r_mo_codes ?_
    refine V_iload_1 d_mo_stands_335 ?_
    refine V_iald d_mo_stands_336 is_mo_codes (by omega) (by omega) ?_
    refine V_iast d_mo_stands_337 is_mo_codes (by omega) (by omega) ?_
    refine V_iinc_1 d_mo_stands_338 rfl ?_
    refine V_goto 314 d_mo_stands_341 (by decide) ?_
    refine ih _ _ (by omega) (by omega) (by rw [q_up_ne (by omega)]; exact hc) (fun F' h1 h2 => K F' (fun j i hj => ?_) (fun i i0 i1 => ?_))
    · rw [h1 j i (by omega), q_up_ne (by omega)]
    · by_cases ei : i = k
      · rw [ei, h1 _ _ (by omega), q_up_eq]
      · rw [h2 i (by omega) i1, q_up_ne (by omega)]
end STD
section STD2
variable {D : q_D} {C : q_C} {f f' f'' S : q_F} {A : q_As} {g h : Int} {L : List Int} {R : Int → Int → Int}
def stB (j : Int) : Int := if j = 246 then 7 else if j = 247 then 32 else if j = 248 then 12 else if j = 249 then 48 else if j = 250 then 30 else if j = 251 then 30 else if j = 252 then 5 else if j = 253 then 64 else if j = 254 then 120 else if j = 255 then 1600 else 6
/-- what stays while rows are copied -/
def stK (f F : q_F) : Prop := (∀ j k, ¬ (246 ≤ j ∧ j ≤ 259) → ¬ (j = 219 ∧ k = 45) → F j k = f j k) ∧ ∀ j k, 246 ≤ j → j ≤ 259 → k < stB j → F j k = f j k
theorem stK.to {F F' : q_F} (hK : stK f F) (P : Int → Int → Prop) (hP : ∀ j k, P j k → 246 ≤ j ∧ j ≤ 259 ∧ stB j ≤ k) (hF : ∀ j k, ¬ P j k → F' j k = F j k) : stK f F' :=
  ⟨fun j k a b => by rw [hF j k (fun c => a (by have := hP j k c; omega))]; exact hK.1 j k a b, fun j k a b c => by rw [hF j k (fun d => by have := hP j k d; omega)]; exact hK.2 j k a b c⟩
theorem flS_in {n : Int} {k : Nat} {a b x y : Int} (hx : (0 ≤ x ∧ x < n) ∧ 0 ≤ y ∧ y < n) : flS R n k a b x y = if x < a ∨ (x = a ∧ y < b) then fly R (k + 1) x y else fly R k x y := by unfold flS; rw [if_pos hx]
theorem stK.refl (f : q_F) : stK f f := ⟨fun _ _ _ _ => rfl, fun _ _ _ _ _ => rfl⟩
theorem st_floyd (hRo : roK R) (hf : ∀ x y, 0 ≤ x → x < 8 → 0 ≤ y → y < 8 → f 253 (64 + 8 * x + y) = R x y) {t u v : Value} (K : ∀ (F : q_F) (t u v : Value), (∀ x y, 0 ≤ x → x < 8 → 0 ≤ y → y < 8 → F 253 (64 + 8 * x + y) = fly R 8 x y) → (∀ j k, ¬ (j = 253 ∧ 64 ≤ k) → F j k = f j k) → V D C m_mo_stands 452 [vr D 219, vi 8, t, u, v] [] (Zg g h) F) : V D C m_mo_stands 346 [vr D 219, vi 0, t, u, v] [] (Zg g h) f := by
  have l3 : ∀ (m : Nat) (k : Nat) (a b : Int) (F : q_F) (u : Value), b + m = 8 → 0 ≤ b → 0 ≤ a → a < 8 → (k : Int) < 8 → (∀ x y, 0 ≤ x → x < 8 → 0 ≤ y → y < 8 → F 253 (64 + 8 * x + y) = flS R 8 k a b x y) → (∀ j k, ¬ (j = 253 ∧ 64 ≤ k) → F j k = f j k) → (∀ (F' : q_F) (u v : Value), (∀ x y, 0 ≤ x → x < 8 → 0 ≤ y → y < 8 → F' 253 (64 + 8 * x + y) = flS R 8 k (a + 1) 0 x y) → (∀ j k, ¬ (j = 253 ∧ 64 ≤ k) → F' j k = f j k) → V D C m_mo_stands 354 [vr D 219, vi k, vi (a + 1), u, v] [] (Zg g h) F') → V D C m_mo_stands 362 [vr D 219, vi k, vi a, vi b, u] [] (Zg g h) F := by
    intro m
    induction m with
    | zero =>
      intro k a b F u hm b0 a0 a1 hk hF hfr K
      refine V_iload_3 d_mo_stands_362 ?_
      refine V_bipush 8 d_mo_stands_363 (by decide) ?_
      refine V_icmp_ge 440 d_mo_stands_365 (by decide) (by omega) (by omega) (fun c365 => ?_) (fun c365 => by omega)
      refine V_iinc_2 d_mo_stands_440 rfl ?_
      refine V_goto 354 d_mo_stands_443 (by decide) ?_
      refine K F _ _ (fun x y x0 x1 y0 y1 => ?_) hfr
      rw [hF x y x0 x1 y0 y1, flS_in (by omega), flS_in (by omega)]
      by_cases h2 : x < a + 1
      · rw [if_pos (by omega), if_pos (by omega)]
      · rw [if_neg (by omega), if_neg (by omega)]
    | succ m ih =>
      intro k a b F u hm b0 a0 a1 hk hF hfr K
      have ok := fly_ok hRo k (by omega)
      have r1 : F 253 (64 + 8 * a + k) = fly R k a k := by
        rw [hF a k a0 (by omega) (by omega) (by omega)]; unfold flS
        rw [if_pos (by omega)]
        split
        · exact fly_l hRo (by omega) a0 (by omega)
        · rfl
      have r2 : F 253 (64 + 8 * k + b) = fly R k k b := by
        rw [hF k b (by omega) (by omega) b0 (by omega)]; unfold flS
        rw [if_pos (by omega)]
        split
        · exact fly_r hRo (by omega) b0 (by omega)
        · rfl
      have r3 : F 253 (64 + 8 * a + b) = fly R k a b := by
        rw [hF a b a0 (by omega) b0 (by omega)]; unfold flS
        rw [if_pos (by omega), if_neg (by omega)]
      have g1 := (ok a k a0 (by omega) (by omega) (by omega)).1
      have g2 := (ok k b (by omega) (by omega) b0 (by omega)).1
      have g3 := (ok a b a0 (by omega) b0 (by omega)).1
      have nx : ∀ F' : q_F, (∀ x y, 0 ≤ x → x < 8 → 0 ≤ y → y < 8 → ¬ (x = a ∧ y = b) → F' 253 (64 + 8 * x + y) = F 253 (64 + 8 * x + y)) → F' 253 (64 + 8 * a + b) = min (fly R k a b) (fly R k a k + fly R k k b) → ∀ x y, 0 ≤ x → x < 8 → 0 ≤ y → y < 8 → F' 253 (64 + 8 * x + y) = flS R 8 k a (b + 1) x y := fun F' h1 h2 x y x0 x1 y0 y1 => by
        by_cases e : x = a ∧ y = b
        · rw [e.1, e.2, h2]; unfold flS
          rw [if_pos (by omega), if_pos (by omega)]; rfl
        · rw [h1 x y x0 x1 y0 y1 e, hF x y x0 x1 y0 y1, flS_in (by omega), flS_in (by omega)]
          by_cases h2 : x < a ∨ (x = a ∧ y < b)
          · rw [if_pos h2, if_pos (by omega)]
          · rw [if_neg h2, if_neg (by omega)]
      refine V_iload_3 d_mo_stands_362 ?_
      refine V_bipush 8 d_mo_stands_363 (by decide) ?_
      refine V_icmp_ge 440 d_mo_stands_365 (by decide) (by omega) (by omega) (fun c365 => by omega) (fun c365 => ?_)
      refine V_aload_0 d_mo_stands_368 ?_
      refine V_getR d_mo_stands_369 fl_mo_115 is_mo r_mo_roads ?_
      refine V_bipush 64 d_mo_stands_372 (by decide) ?_
      refine V_bipush 8 d_mo_stands_374 (by decide) ?_
      refine V_iload_2 d_mo_stands_376 ?_
      refine V_imul d_mo_stands_377 ?_
      refine V_iadd d_mo_stands_378 ?_
      refine V_iload_1 d_mo_stands_379 ?_
      refine V_iadd d_mo_stands_380 ?_
      refine V_iald d_mo_stands_381 is_mo_roads (by omega) (by omega) ?_
      rw [r1]
      refine V_aload_0 d_mo_stands_382 ?_
      refine V_getR d_mo_stands_383 fl_mo_115 is_mo r_mo_roads ?_
      refine V_bipush 64 d_mo_stands_386 (by decide) ?_
      refine V_bipush 8 d_mo_stands_388 (by decide) ?_
      refine V_iload_1 d_mo_stands_390 ?_
      refine V_imul d_mo_stands_391 ?_
      refine V_iadd d_mo_stands_392 ?_
      refine V_iload_3 d_mo_stands_393 ?_
      refine V_iadd d_mo_stands_394 ?_
      refine V_iald d_mo_stands_395 is_mo_roads (by omega) (by omega) ?_
      rw [r2]
      refine V_iadd d_mo_stands_396 ?_
      refine V_istore_4 d_mo_stands_397 rfl ?_
      refine V_iload_4 d_mo_stands_399 ?_
      refine V_aload_0 d_mo_stands_401 ?_
      refine V_getR d_mo_stands_402 fl_mo_115 is_mo r_mo_roads ?_
      refine V_bipush 64 d_mo_stands_405 (by decide) ?_
      refine V_bipush 8 d_mo_stands_407 (by decide) ?_
      refine V_iload_2 d_mo_stands_409 ?_
      refine V_imul d_mo_stands_410 ?_
      refine V_iadd d_mo_stands_411 ?_
      refine V_iload_3 d_mo_stands_412 ?_
      refine V_iadd d_mo_stands_413 ?_
      refine V_iald d_mo_stands_414 is_mo_roads (by omega) (by omega) ?_
      rw [r3]
      refine V_icmp_ge 434 d_mo_stands_415 (by decide) (by omega) (by omega) (fun c415 => ?_) (fun c415 => ?_)
      · skip
        refine V_iinc_3 d_mo_stands_434 rfl ?_
        refine V_goto 362 d_mo_stands_437 (by decide) ?_
        exact ih k a (b + 1) F _ (by omega) (by omega) a0 a1 hk (nx F (fun _ _ _ _ _ _ _ => rfl) (by rw [r3]; omega)) hfr K
      · skip
        refine V_aload_0 d_mo_stands_418 ?_
        refine V_getR d_mo_stands_419 fl_mo_115 is_mo r_mo_roads ?_
        refine V_bipush 64 d_mo_stands_422 (by decide) ?_
        refine V_bipush 8 d_mo_stands_424 (by decide) ?_
        refine V_iload_2 d_mo_stands_426 ?_
        refine V_imul d_mo_stands_427 ?_
        refine V_iadd d_mo_stands_428 ?_
        refine V_iload_3 d_mo_stands_429 ?_
        refine V_iadd d_mo_stands_430 ?_
        refine V_iload_4 d_mo_stands_431 ?_
        refine V_iast d_mo_stands_433 is_mo_roads (by omega) (by omega) ?_
        refine V_iinc_3 d_mo_stands_434 rfl ?_
        refine V_goto 362 d_mo_stands_437 (by decide) ?_
        exact ih k a (b + 1) _ _ (by omega) (by omega) a0 a1 hk (nx _ (fun x y x0 x1 y0 y1 hn => q_up_ne (by omega)) (by rw [q_up_eq]; omega)) (fun j i hj => by rw [q_up_ne (by omega)]; exact hfr j i hj) K
  have l2 : ∀ (m : Nat) (k : Nat) (a : Int) (F : q_F) (u v : Value), a + m = 8 → 0 ≤ a → (k : Int) < 8 → (∀ x y, 0 ≤ x → x < 8 → 0 ≤ y → y < 8 → F 253 (64 + 8 * x + y) = flS R 8 k a 0 x y) → (∀ j k, ¬ (j = 253 ∧ 64 ≤ k) → F j k = f j k) → (∀ (F' : q_F) (t u v : Value), (∀ x y, 0 ≤ x → x < 8 → 0 ≤ y → y < 8 → F' 253 (64 + 8 * x + y) = flS R 8 (k + 1) 0 0 x y) → (∀ j k, ¬ (j = 253 ∧ 64 ≤ k) → F' j k = f j k) → V D C m_mo_stands 346 [vr D 219, vi ((k : Int) + 1), t, u, v] [] (Zg g h) F') → V D C m_mo_stands 354 [vr D 219, vi k, vi a, u, v] [] (Zg g h) F := by
    intro m
    induction m with
    | zero =>
      intro k a F u v hm a0 hk hF hfr K
      refine V_iload_2 d_mo_stands_354 ?_
      refine V_bipush 8 d_mo_stands_355 (by decide) ?_
      refine V_icmp_ge 446 d_mo_stands_357 (by decide) (by omega) (by omega) (fun c357 => ?_) (fun c357 => by omega)
      refine V_iinc_1 d_mo_stands_446 rfl ?_
      refine V_goto 346 d_mo_stands_449 (by decide) ?_
      refine K F _ _ _ (fun x y x0 x1 y0 y1 => ?_) hfr
      rw [hF x y x0 x1 y0 y1, flS_in (by omega), flS_in (by omega), if_pos (by omega), if_neg (by omega)]
    | succ m ih =>
      intro k a F u v hm a0 hk hF hfr K
      refine V_iload_2 d_mo_stands_354 ?_
      refine V_bipush 8 d_mo_stands_355 (by decide) ?_
      refine V_icmp_ge 446 d_mo_stands_357 (by decide) (by omega) (by omega) (fun c357 => by omega) (fun c357 => ?_)
      refine V_iconst 0 d_mo_stands_360 ?_
      refine V_istore_3 d_mo_stands_361 rfl ?_
      exact l3 8 k a _ F _ (by omega) (by decide) a0 (by omega) hk hF hfr (fun F' u v h1 h2 => ih k (a + 1) F' u v (by omega) (by omega) hk h1 h2 K)
  have l1 : ∀ (m : Nat) (k : Nat) (F : q_F) (t u v : Value), (k : Int) + m = 8 → (∀ x y, 0 ≤ x → x < 8 → 0 ≤ y → y < 8 → F 253 (64 + 8 * x + y) = flS R 8 k 0 0 x y) → (∀ j k, ¬ (j = 253 ∧ 64 ≤ k) → F j k = f j k) → V D C m_mo_stands 346 [vr D 219, vi k, t, u, v] [] (Zg g h) F := by
    intro m
    induction m with
    | zero =>
      intro k F t u v hm hF hfr
      have hk8 : k = 8 := by omega
      subst hk8
      refine V_iload_1 d_mo_stands_346 ?_
      refine V_bipush 8 d_mo_stands_347 (by decide) ?_
      refine V_icmp_ge 452 d_mo_stands_349 (by decide) (by omega) (by omega) (fun c349 => ?_) (fun c349 => by omega)
      refine K F _ _ _ (fun x y x0 x1 y0 y1 => ?_) hfr
      rw [hF x y x0 x1 y0 y1]; unfold flS
      rw [if_pos (by omega), if_neg (by omega)]
    | succ m ih =>
      intro k F t u v hm hF hfr
      refine V_iload_1 d_mo_stands_346 ?_
      refine V_bipush 8 d_mo_stands_347 (by decide) ?_
      refine V_icmp_ge 452 d_mo_stands_349 (by decide) (by omega) (by omega) (fun c349 => by omega) (fun c349 => ?_)
      refine V_iconst 0 d_mo_stands_352 ?_
      refine V_istore_2 d_mo_stands_353 rfl ?_
      exact l2 8 k _ F _ _ (by decide) (by decide) (by omega) hF hfr (fun F' t u v h1 h2 => ih (k + 1) F' t u v (by push_cast; omega) h1 h2)
  refine l1 8 0 f t u v (by decide) (fun x y x0 x1 y0 y1 => ?_) (fun _ _ _ => rfl)
  rw [hf x y x0 x1 y0 y1]; unfold flS
  rw [if_pos (by omega), if_neg (by omega)]; rfl
theorem ok_areFarS {hm : Int → Int → Int} {a b t u : Int} (hf : f 253 (64 + 8 * a + b) = hm a b) (hr : 0 ≤ hm a b ∧ hm a b ≤ 1000) (ha : 0 ≤ a ∧ a < 8) (hb : 0 ≤ b ∧ b < 8) (ht : 0 ≤ t ∧ t ≤ 99) (hu : 0 ≤ u ∧ u ≤ 99) : OkI D m_mo_areFarEnough [vr D 219, vi a, vi t, vi b, vi u] (Zg g h) f (fun r f' => ((r = 1 ∧ hm a b ≤ iabs (t - u)) ∨ (r = 0 ∧ ¬ hm a b ≤ iabs (t - u))) ∧ f' = f) := by
  refine OkB_of (L0 := [vr D 219, vi a, vi t, vi b, vi u, vu]) mi_mo_areFarEnough rfl rfl (Nat.le_of_ble_eq_true rfl) (fun C hR => ?_)
  refine V_iload_2 d_mo_areFarEnough_0 ?_
  refine V_iload_4 d_mo_areFarEnough_1 ?_
  refine V_icmp_ge 13 d_mo_areFarEnough_3 (by decide) (by omega) (by omega) (fun c3 => ?_) (fun c3 => ?_)
  · skip
    refine V_iload_2 d_mo_areFarEnough_13 ?_
    refine V_iload_4 d_mo_areFarEnough_14 ?_
    refine V_isub d_mo_areFarEnough_16 ?_
    refine V_istore_5 d_mo_areFarEnough_17 rfl ?_
    refine V_aload_0 d_mo_areFarEnough_19 ?_
    refine V_getR d_mo_areFarEnough_20 fl_mo_115 is_mo r_mo_roads ?_
    refine V_bipush 64 d_mo_areFarEnough_23 (by decide) ?_
    refine V_bipush 8 d_mo_areFarEnough_25 (by decide) ?_
    refine V_iload_1 d_mo_areFarEnough_27 ?_
    refine V_imul d_mo_areFarEnough_28 ?_
    refine V_iadd d_mo_areFarEnough_29 ?_
    refine V_iload_3 d_mo_areFarEnough_30 ?_
    refine V_iadd d_mo_areFarEnough_31 ?_
    refine V_iald d_mo_areFarEnough_32 is_mo_roads (by omega) (by omega) ?_
    rw [hf]
    refine V_iload_5 d_mo_areFarEnough_33 ?_
    refine V_icmp_gt 42 d_mo_areFarEnough_35 (by decide) (by omega) (by omega) (fun c35 => ?_) (fun c35 => ?_)
    · skip
      refine V_iconst 0 d_mo_areFarEnough_42 ?_
      refine V_ireturn d_mo_areFarEnough_43 (hR _ _ (by decide) ?_)
      exact ⟨by unfold iabs; split <;> omega, rfl⟩
    · skip
      refine V_iconst 1 d_mo_areFarEnough_38 ?_
      refine V_goto 43 d_mo_areFarEnough_39 (by decide) ?_
      refine V_ireturn d_mo_areFarEnough_43 (hR _ _ (by decide) ?_)
      exact ⟨by unfold iabs; split <;> omega, rfl⟩
  · skip
    refine V_iload_4 d_mo_areFarEnough_6 ?_
    refine V_iload_2 d_mo_areFarEnough_8 ?_
    refine V_isub d_mo_areFarEnough_9 ?_
    refine V_goto 17 d_mo_areFarEnough_10 (by decide) ?_
    refine V_istore_5 d_mo_areFarEnough_17 rfl ?_
    refine V_aload_0 d_mo_areFarEnough_19 ?_
    refine V_getR d_mo_areFarEnough_20 fl_mo_115 is_mo r_mo_roads ?_
    refine V_bipush 64 d_mo_areFarEnough_23 (by decide) ?_
    refine V_bipush 8 d_mo_areFarEnough_25 (by decide) ?_
    refine V_iload_1 d_mo_areFarEnough_27 ?_
    refine V_imul d_mo_areFarEnough_28 ?_
    refine V_iadd d_mo_areFarEnough_29 ?_
    refine V_iload_3 d_mo_areFarEnough_30 ?_
    refine V_iadd d_mo_areFarEnough_31 ?_
    refine V_iald d_mo_areFarEnough_32 is_mo_roads (by omega) (by omega) ?_
    rw [hf]
    refine V_iload_5 d_mo_areFarEnough_33 ?_
    refine V_icmp_gt 42 d_mo_areFarEnough_35 (by decide) (by omega) (by omega) (fun c35 => ?_) (fun c35 => ?_)
    · skip
      refine V_iconst 0 d_mo_areFarEnough_42 ?_
      refine V_ireturn d_mo_areFarEnough_43 (hR _ _ (by decide) ?_)
      exact ⟨by unfold iabs; split <;> omega, rfl⟩
    · skip
      refine V_iconst 1 d_mo_areFarEnough_38 ?_
      refine V_goto 43 d_mo_areFarEnough_39 (by decide) ?_
      refine V_ireturn d_mo_areFarEnough_43 (hR _ _ (by decide) ?_)
      exact ⟨by unfold iabs; split <;> omega, rfl⟩
theorem st_meets {hm : Int → Int → Int} (hS : mS f S) (hY : pY S) (hf : ∀ x y, 0 ≤ x → x < 8 → 0 ≤ y → y < 8 → f 253 (64 + 8 * x + y) = hm x y ∧ (0 ≤ hm x y ∧ hm x y ≤ 1000)) {t u v : Value} (K : ∀ (F : q_F) (w t u v : Value), (∀ s, 0 ≤ s → s < S 1 4 → F 264 s = -1 ∧ F 265 s = mB (fun j => decide (j < S 1 4) && nr S hm (S (46 + s) 1) (S (46 + s) 2) j)) → (∀ j k, ¬ (j = 264 ∨ j = 265) → F j k = f j k) → V D C m_mo_stands 537 [vr D 219, w, t, u, v] [] (Zg g h) F) : V D C m_mo_stands 454 [vr D 219, vi 0, t, u, v] [] (Zg g h) f := by
  have hW := hY.1
  have b3 := hW.2.2.2.1
  have b4 := hW.2.2.2.2.1
  have mSF : ∀ F : q_F, (∀ j k, ¬ (j = 264 ∨ j = 265) → F j k = f j k) → mS F S := fun F hk => hS.fr (fun j k hj => hk j k (by omega))
  have inner : ∀ (m : Nat) (s x : Int) (F : q_F) (u v : Value), x + m = S 1 4 → 0 ≤ x → 0 ≤ s → s < S 1 4 → (∀ j k, ¬ (j = 264 ∨ j = 265) → F j k = f j k) → F 265 s = mB (fun j => decide (j < x) && nr S hm (S (46 + s) 1) (S (46 + s) 2) j) → (∀ (F' : q_F) (t u v : Value), (∀ j k, ¬ (j = 265 ∧ k = s) → F' j k = F j k) → F' 265 s = mB (fun j => decide (j < S 1 4) && nr S hm (S (46 + s) 1) (S (46 + s) 2) j) → V D C m_mo_stands 454 [vr D 219, vi (s + 1), t, u, v] [] (Zg g h) F') → V D C m_mo_stands 478 [vr D 219, vi s, vi x, u, v] [] (Zg g h) F := by
    intro m
    induction m with
    | zero =>
      intro s x F u v xm x0 s0 s1 hfr hB K
      refine V_iload_2 d_mo_stands_478 ?_
      refine V_aload_0 d_mo_stands_479 ?_
      refine V_cvI0 d_mo_stands_480 ml_mo_328 mv_mo_seenMany (by decide) (Nat.le_of_ble_eq_true rfl) is_mo (ok_seenManyS (mSF F hfr)) ?_
      rintro _ f2 ⟨rfl, e2⟩
      rw [e2]; clear e2 f2
      refine V_icmp_ge 531 d_mo_stands_483 (by decide) (by omega) (by omega) (fun c483 => ?_) (fun c483 => by omega)
      refine V_iinc_1 d_mo_stands_531 rfl ?_
      refine V_goto 454 d_mo_stands_534 (by decide) ?_
      exact K F _ _ _ (fun _ _ _ => rfl) (by rw [hB, show x = S 1 4 by omega])
    | succ m ih =>
      intro s x F u v xm x0 s0 s1 hfr hB K
      have hx1 := hY.2.1 s s0 s1
      have hx2 := hY.2.1 x x0 (by omega)
      have hSF := mSF F hfr
      have hf1 := hf (S (46 + s) 1) (S (46 + x) 1) (by omega) (by omega) (by omega) (by omega)
      have hf2 : F 253 (64 + 8 * S (46 + s) 1 + S (46 + x) 1) = hm (S (46 + s) 1) (S (46 + x) 1) := by rw [hfr _ _ (by omega)]; exact hf1.1
      refine V_iload_2 d_mo_stands_478 ?_
      refine V_aload_0 d_mo_stands_479 ?_
      refine V_cvI0 d_mo_stands_480 ml_mo_328 mv_mo_seenMany (by decide) (Nat.le_of_ble_eq_true rfl) is_mo (ok_seenManyS hSF) ?_
      rintro _ f2 ⟨rfl, e2⟩
      rw [e2]; clear e2 f2
      refine V_icmp_ge 531 d_mo_stands_483 (by decide) (by omega) (by omega) (fun c483 => by omega) (fun c483 => ?_)
      refine V_aload_0 d_mo_stands_486 ?_
      refine V_aload_0 d_mo_stands_487 ?_
      refine V_iload_1 d_mo_stands_488 ?_
      refine V_cvI1 d_mo_stands_489 ml_mo_331 mv_mo_placeOf (by decide) (Nat.le_of_ble_eq_true rfl) is_mo (ok_placeOfS hSF hW (by omega)) ?_
      rintro _ f2 ⟨rfl, e2⟩
      rw [e2]; clear e2 f2
      refine V_aload_0 d_mo_stands_492 ?_
      refine V_iload_1 d_mo_stands_493 ?_
      refine V_cvI1 d_mo_stands_494 ml_mo_334 mv_mo_hourOf (by decide) (Nat.le_of_ble_eq_true rfl) is_mo (ok_hourOfS hSF hW (by omega)) ?_
      rintro _ f2 ⟨rfl, e2⟩
      rw [e2]; clear e2 f2
      refine V_aload_0 d_mo_stands_497 ?_
      refine V_iload_2 d_mo_stands_498 ?_
      refine V_cvI1 d_mo_stands_499 ml_mo_331 mv_mo_placeOf (by decide) (Nat.le_of_ble_eq_true rfl) is_mo (ok_placeOfS hSF hW (by omega)) ?_
      rintro _ f2 ⟨rfl, e2⟩
      rw [e2]; clear e2 f2
      refine V_aload_0 d_mo_stands_502 ?_
      refine V_iload_2 d_mo_stands_503 ?_
      refine V_cvI1 d_mo_stands_504 ml_mo_334 mv_mo_hourOf (by decide) (Nat.le_of_ble_eq_true rfl) is_mo (ok_hourOfS hSF hW (by omega)) ?_
      rintro _ f2 ⟨rfl, e2⟩
      rw [e2]; clear e2 f2
      refine V_cvI4 d_mo_stands_507 ml_mo_337 mv_mo_areFarEnough (by decide) (Nat.le_of_ble_eq_true rfl) is_mo (ok_areFarS hf2 hf1.2 (by omega) (by omega) hx1.2.2.1 hx2.2.2.1) ?_
      rintro x507 f2 ⟨hx507, e2⟩
      rw [e2]; clear e2 f2
      refine V_if_eq 525 d_mo_stands_510 (by decide) (by rcases hx507 with h | h <;> omega) (fun c510 => ?_) (fun c510 => ?_)
      · skip
        refine V_iinc_2 d_mo_stands_525 rfl ?_
        refine V_goto 478 d_mo_stands_528 (by decide) ?_
        refine ih s _ F _ _ (by omega) (by omega) s0 s1 hfr ?_ K
        rw [mB_step _ (by omega), hB]
        have : nr S hm (S (46 + s) 1) (S (46 + s) 2) x = false := by
          unfold nr; rw [decide_eq_false_iff_not]
          rcases hx507 with h | h
          · omega
          · exact h.2
        rw [this]; rfl
      · skip
        refine V_aload_0 d_mo_stands_513 ?_
        refine V_getR d_mo_stands_514 fl_mo_151 is_mo r_mo_with ?_
        refine V_iload_1 d_mo_stands_517 ?_
        refine V_dup2 d_mo_stands_518 rfl rfl ?_
        refine V_iald d_mo_stands_519 is_mo_with (by omega) (by omega) ?_
        rw [hB]
        refine V_iconst 1 d_mo_stands_520 ?_
        refine V_iload_2 d_mo_stands_521 ?_
        refine V_ishl d_mo_stands_522 ?_
        refine V_ior d_mo_stands_523 ?_
        refine V_iast d_mo_stands_524 is_mo_with (by omega) (by omega) ?_
        refine V_iinc_2 d_mo_stands_525 rfl ?_
        refine V_goto 478 d_mo_stands_528 (by decide) ?_
        refine ih s _ _ _ _ (by omega) (by omega) s0 s1 (fun j k hj => by rw [q_up_ne (by omega)]; exact hfr j k hj) ?_ (fun F' t u v h1 h2 => K F' t u v (fun j k hj => by rw [h1 j k hj, q_up_ne (by omega)]) h2)
        rw [q_up_eq, mB_step _ (by omega)]
        have : nr S hm (S (46 + s) 1) (S (46 + s) 2) x = true := by
          unfold nr; rw [decide_eq_true_eq]
          rcases hx507 with h | h
          · exact h.2
          · omega
        rw [this]; rfl
  have outer : ∀ (m : Nat) (s : Int) (F : q_F) (t u v : Value), s + m = S 1 4 → 0 ≤ s → (∀ j k, ¬ (j = 264 ∨ j = 265) → F j k = f j k) → (∀ k, 0 ≤ k → k < s → F 264 k = -1 ∧ F 265 k = mB (fun j => decide (j < S 1 4) && nr S hm (S (46 + k) 1) (S (46 + k) 2) j)) → V D C m_mo_stands 454 [vr D 219, vi s, t, u, v] [] (Zg g h) F := by
    intro m
    induction m with
    | zero =>
      intro s F t u v sm s0 hfr hP
      refine V_iload_1 d_mo_stands_454 ?_
      refine V_aload_0 d_mo_stands_455 ?_
      refine V_cvI0 d_mo_stands_456 ml_mo_328 mv_mo_seenMany (by decide) (Nat.le_of_ble_eq_true rfl) is_mo (ok_seenManyS (mSF F hfr)) ?_
      rintro _ f2 ⟨rfl, e2⟩
      rw [e2]; clear e2 f2
      refine V_icmp_ge 537 d_mo_stands_459 (by decide) (by omega) (by omega) (fun c459 => ?_) (fun c459 => by omega)
      exact K F _ _ _ _ (fun k k0 k1 => hP k k0 (by omega)) hfr
    | succ m ih =>
      intro s F t u v sm s0 hfr hP
      refine V_iload_1 d_mo_stands_454 ?_
      refine V_aload_0 d_mo_stands_455 ?_
      refine V_cvI0 d_mo_stands_456 ml_mo_328 mv_mo_seenMany (by decide) (Nat.le_of_ble_eq_true rfl) is_mo (ok_seenManyS (mSF F hfr)) ?_
      rintro _ f2 ⟨rfl, e2⟩
      rw [e2]; clear e2 f2
      refine V_icmp_ge 537 d_mo_stands_459 (by decide) (by omega) (by omega) (fun c459 => by omega) (fun c459 => ?_)
      refine V_aload_0 d_mo_stands_462 ?_
      refine V_getR d_mo_stands_463 fl_mo_148 is_mo r_mo_hired ?_
      refine V_iload_1 d_mo_stands_466 ?_
      refine V_iconst (-1) d_mo_stands_467 ?_
      refine V_iast d_mo_stands_468 is_mo_hired (by omega) (by omega) ?_
      refine V_aload_0 d_mo_stands_469 ?_
      refine V_getR d_mo_stands_470 fl_mo_151 is_mo r_mo_with ?_
      refine V_iload_1 d_mo_stands_473 ?_
      refine V_iconst 0 d_mo_stands_474 ?_
      refine V_iast d_mo_stands_475 is_mo_with (by omega) (by omega) ?_
      refine V_iconst 0 d_mo_stands_476 ?_
      refine V_istore_2 d_mo_stands_477 rfl ?_
      refine inner (S 1 4).toNat s _ _ _ _ (by omega) (by decide) s0 (by omega) (fun j k hj => by rw [q_up_ne (by omega), q_up_ne (by omega)]; exact hfr j k hj) (by rw [q_up_eq]; exact (mB_lt0 _).symm) (fun F' t u v h1 h2 => ih (s + 1) F' t u v (by omega) (by omega) (fun j k hj => ?_) (fun k k0 k1 => ?_))
      · rw [h1 j k (by omega), q_up_ne (by omega), q_up_ne (by omega)]; exact hfr j k hj
      · by_cases ek : k = s
        · rw [ek, h2, h1 _ _ (by omega), q_up_ne (by omega), q_up_eq]; exact ⟨rfl, rfl⟩
        · rw [h1 _ _ (by omega), h1 _ _ (by omega), q_up_ne (by omega), q_up_ne (by omega), q_up_ne (by omega), q_up_ne (by omega)]; exact hP k k0 (by omega)
  exact outer (S 1 4).toNat 0 f t u v (by omega) (by decide) (fun _ _ _ => rfl) (fun k k0 k1 => by omega)
/-- what stands() leaves -/
def sdP (S : q_F) (L : List Int) (f f' : q_F) : Prop := mS f' S ∧ (∀ k, 0 ≤ k → k < 32 → f' 247 (32 + k) = f 247 k) ∧ f' 219 45 = S 0 14 ∧ (∀ x y, 0 ≤ x → x < 8 → 0 ≤ y → y < 8 → f' 253 (64 + 8 * x + y) = fly (rdS S) 8 x y) ∧ (∀ s, 0 ≤ s → s < S 1 4 → f' 264 s = -1 ∧ f' 265 s = mB (fun j => decide (j < S 1 4) && nr S (fly (rdS S) 8) (S (46 + s) 1) (S (46 + s) 2) j)) ∧ (∀ i s, 0 ≤ i → i < S 1 2 → 0 ≤ s → s < S 1 4 → f' 262 (24 * i + s) = pss S i s ∧ f' 263 (24 * i + s) = prc S L i s) ∧ f' 219 64 = 0 ∧ ∀ j k, (j = 219 ∧ ¬ k = 45 ∧ ¬ k = 57 ∧ ¬ k = 64) ∨ j < 219 ∨ (220 ≤ j ∧ j ≤ 245) ∨ 266 ≤ j → f' j k = f j k
theorem ok_stands (hE : mE f S L) (hW : pW S) (hX : pX S L) (hl : (L.length : Int) ≤ 1600) : OkV D m_mo_stands [vr D 219] (Zg g h) f (sdP S L f) := by
  have hY := hX.y hW
  have hRo := hX.ro hW
  have b0 := hW.1
  have b1 := hW.2.1
  have b2 := hW.2.2.1
  have b3 := hW.2.2.2.1
  have b4 := hW.2.2.2.2.1
  have b5 := hW.2.2.2.2.2.1
  have flk := fly_ok hRo 8 (by decide)
  obtain ⟨m1, m2, m3, m4, m5, m6, m7, m8, m9, m10⟩ := hE
  have c48 : f 219 48 = L.length := m10.1
  refine OkV_of (L0 := [vr D 219, vu, vu, vu, vu]) mi_mo_stands rfl rfl (Nat.le_of_ble_eq_true rfl) (fun C hR => ?_)
  have K537 : ∀ (F3 : q_F) (w t u v : Value), mS F3 S → mSr F3 S L → (∀ s, 0 ≤ s → s < S 1 4 → F3 264 s = -1 ∧ F3 265 s = mB (fun j => decide (j < S 1 4) && nr S (fly (rdS S) 8) (S (46 + s) 1) (S (46 + s) 2) j)) → (∀ k, 0 ≤ k → k < 32 → F3 247 (32 + k) = f 247 k) → F3 219 45 = S 0 14 → (∀ x y, 0 ≤ x → x < 8 → 0 ≤ y → y < 8 → F3 253 (64 + 8 * x + y) = fly (rdS S) 8 x y) → (∀ j k, (j = 219 ∧ ¬ k = 45 ∧ ¬ k = 57 ∧ ¬ k = 64) ∨ j < 219 ∨ (220 ≤ j ∧ j ≤ 245) ∨ 266 ≤ j → F3 j k = f j k) → V D C m_mo_stands 537 [vr D 219, w, t, u, v] [] (Zg g h) F3 := by
    intro F3 w t u v hS hSr hm hn h45 hro hfr
    have S3 : mS (q_up F3 219 64 0) S := hS.fr (fun j k hj => q_up_ne (by omega))
    have Sr3 : mSr (q_up F3 219 64 0) S L := hSr.fr (fun j k hj => q_up_ne (by omega))
    refine V_aload_0 d_mo_stands_537 ?_
    refine V_iconst 0 d_mo_stands_538 ?_
    refine V_putI d_mo_stands_539 fl_mo_341 is_mo ?_
    refine V_aload_0 d_mo_stands_542 ?_
    refine V_cvV0 d_mo_stands_543 ml_mo_344 mv_mo_passes (by decide) (Nat.le_of_ble_eq_true rfl) is_mo (ok_passes S3 Sr3 hY hX.2.2.2.2.2.2.2 hl) ?_
    rintro F4 ⟨z4, p4⟩
    refine V_return d_mo_stands_546 (hR _ ?_)
    refine ⟨S3.fr (fun j k hj => z4 j k (by omega) (by omega)), fun k k0 k1' => ?_, ?_, fun x y x0 x1 y0 y1 => ?_, fun s s0 s1 => ?_, p4, ?_, fun j k hj => ?_⟩
    · rw [z4 _ _ (by omega) (by omega), q_up_ne (by omega)]; exact hn k k0 k1'
    · rw [z4 _ _ (by omega) (by omega), q_up_ne (by omega)]; exact h45
    · rw [z4 _ _ (by omega) (by omega), q_up_ne (by omega)]; exact hro x y x0 x1 y0 y1
    · rw [z4 _ _ (by omega) (by omega), z4 _ _ (by omega) (by omega), q_up_ne (by omega), q_up_ne (by omega)]; exact hm s s0 s1
    · rw [z4 _ _ (by omega) (by omega), q_up_eq]
    · rw [z4 _ _ (by omega) (by omega), q_up_ne (by omega)]; exact hfr j k hj
  have K452 : ∀ (F2 : q_F) (t u v : Value), mS F2 S → mSr F2 S L → (∀ k, 0 ≤ k → k < 32 → F2 247 (32 + k) = f 247 k) → F2 219 45 = S 0 14 → (∀ x y, 0 ≤ x → x < 8 → 0 ≤ y → y < 8 → F2 253 (64 + 8 * x + y) = fly (rdS S) 8 x y) → (∀ j k, (j = 219 ∧ ¬ k = 45 ∧ ¬ k = 57 ∧ ¬ k = 64) ∨ j < 219 ∨ (220 ≤ j ∧ j ≤ 245) ∨ 266 ≤ j → F2 j k = f j k) → V D C m_mo_stands 452 [vr D 219, vi 8, t, u, v] [] (Zg g h) F2 := by
    intro F2 t u v hS hSr hn h45 hro hfr
    refine V_iconst 0 d_mo_stands_452 ?_
    refine V_istore_1 d_mo_stands_453 rfl ?_
    refine st_meets (hm := fly (rdS S) 8) hS hY (fun x y x0 x1 y0 y1 => ⟨hro x y x0 x1 y0 y1, (flk x y x0 x1 y0 y1).1⟩) (fun F3 w' t' u' v' k1 k2 => ?_)
    exact K537 F3 w' t' u' v' (hS.fr (fun j k hj => k2 j k (by omega))) (hSr.fr (fun j k hj => k2 j k (by omega))) k1 (fun k k0 k1' => by rw [k2 _ _ (by omega)]; exact hn k k0 k1') (by rw [k2 _ _ (by omega)]; exact h45) (fun x y x0 x1 y0 y1 => by rw [k2 _ _ (by omega)]; exact hro x y x0 x1 y0 y1) (fun j k hj => by rw [k2 _ _ (by omega)]; exact hfr j k hj)
  have K344 : ∀ (F : q_F) (w : Int) (a b d : Value), stK f F → mS F S → mSr F S L → (∀ k, 0 ≤ k → k < 32 → F 247 (32 + k) = f 247 k) → F 219 45 = S 0 14 → (∀ x y, 0 ≤ x → x < 8 → 0 ≤ y → y < 8 → F 253 (64 + 8 * x + y) = rdS S x y) → V D C m_mo_stands 344 [vr D 219, vi w, a, b, d] [] (Zg g h) F := by
    intro F w a b d hK hS hSr hn h45 hro
    refine V_iconst 0 d_mo_stands_344 ?_
    refine V_istore_1 d_mo_stands_345 rfl ?_
    refine st_floyd hRo hro (fun F2 t u v g1 g2 => ?_)
    refine K452 F2 t u v ?_ (hSr.fr (fun j k hj => g2 j k (by omega))) (fun k k0 k1' => by rw [g2 _ _ (by omega)]; exact hn k k0 k1') (by rw [g2 _ _ (by omega)]; exact h45) g1 (fun j k hj => by rw [g2 _ _ (by omega)]; exact hK.1 j k (by omega) (by omega))
    obtain ⟨x1, x2, x3, x4, x5, x6⟩ := hS
    refine ⟨⟨?_, ?_, ?_, ?_, ?_, ?_⟩, fun t w a b c d => ?_, fun t w a b c d => ?_, fun t w a b c d => ?_, fun t a b => ?_, fun t w a b c d => ?_⟩
    · rw [g2 _ _ (by omega)]; exact x1.1
    · rw [g2 _ _ (by omega)]; exact x1.2.1
    · rw [g2 _ _ (by omega)]; exact x1.2.2.1
    · rw [g2 _ _ (by omega)]; exact x1.2.2.2.1
    · rw [g2 _ _ (by omega)]; exact x1.2.2.2.2.1
    · rw [g2 _ _ (by omega)]; exact x1.2.2.2.2.2
    · rw [g2 _ _ (by omega)]; exact x2 t w a b c d
    · rw [g2 _ _ (by omega)]; exact x3 t w a b c d
    · rw [g2 _ _ (by omega), g2 _ _ (by omega)]; exact x4 t w a b c d
    · rw [g2 _ _ (by omega)]; exact x5 t a b
    · rw [g2 _ _ (by omega)]; exact x6 t w a b c d
  have fin : ∀ F : q_F, (∀ i, 0 ≤ i → i < 7 → F 246 (7 + i) = f 246 i) → (∀ i, 0 ≤ i → i < 32 → F 247 (32 + i) = f 247 i) → (∀ i, 0 ≤ i → i < 12 → F 248 (12 + i) = f 248 i) → (∀ i, 0 ≤ i → i < 48 → F 249 (48 + i) = f 249 i) → (∀ i, 0 ≤ i → i < 30 → F 250 (30 + i) = f 250 i ∧ F 251 (30 + i) = f 251 i) → (∀ i, 0 ≤ i → i < 5 → F 252 (5 + i) = f 252 i) → (∀ i, 0 ≤ i → i < 64 → F 253 (64 + i) = f 253 i) → (∀ i, 0 ≤ i → i < 120 → F 254 (120 + i) = f 254 i) → mS F S ∧ ∀ x y, 0 ≤ x → x < 8 → 0 ≤ y → y < 8 → F 253 (64 + 8 * x + y) = rdS S x y := by
    intro F h1 h2 h3 h4 h5 h6 h7 h8
    refine ⟨⟨⟨?_, ?_, ?_, ?_, ?_, ?_⟩, fun t w a b c d => ?_, fun p t a b c d => ?_, fun i t a b c d => ?_, fun i a b => ?_, fun s k a b c d => ?_⟩, fun x y a b c d => ?_⟩
    · have := h1 0 (by decide) (by decide); rw [m1.1 0 (by decide) (by decide)] at this; exact this
    · have := h1 1 (by decide) (by decide); rw [m1.1 1 (by decide) (by decide)] at this; exact this
    · have := h1 2 (by decide) (by decide); rw [m1.1 2 (by decide) (by decide)] at this; exact this
    · have := h1 3 (by decide) (by decide); rw [m1.1 3 (by decide) (by decide)] at this; exact this
    · have := h1 5 (by decide) (by decide); rw [m2.2.1] at this; exact this
    · have := h1 6 (by decide) (by decide); rw [m2.2.2.1] at this; exact this
    · rw [show (12 : Int) + 6 * w + t = 12 + (6 * w + t) by omega, h3 _ (by omega) (by omega)]; exact m3 t w a b c d
    · rw [show (48 : Int) + 6 * p + t = 48 + (6 * p + t) by omega, h4 _ (by omega) (by omega)]; exact m4 p t a b c d
    · rw [show (30 : Int) + 6 * i + t = 30 + (6 * i + t) by omega, (h5 _ (by omega) (by omega)).1, (h5 _ (by omega) (by omega)).2]; exact m5 i t a b c d
    · rw [h6 _ a (by omega)]; exact m6 i a b
    · rw [show (120 : Int) + 5 * s + k = 120 + (5 * s + k) by omega, h8 _ (by omega) (by omega)]; exact m8 s k a b c d
    · rw [show (64 : Int) + 8 * x + y = 64 + (8 * x + y) by omega, h7 _ (by omega) (by omega)]; exact m7 x y a b c d
  have K312 : ∀ (F : q_F) (a b d : Value), stK f F → mS F S → (∀ x y, 0 ≤ x → x < 8 → 0 ≤ y → y < 8 → F 253 (64 + 8 * x + y) = rdS S x y) → (∀ k, 0 ≤ k → k < 32 → F 247 (32 + k) = f 247 k) → F 219 45 = S 0 14 → (∀ r, 0 ≤ r → r < S 1 5 → F 257 (6 + r) = S 106 r ∧ F 258 (6 + r) = S 107 r ∧ F 259 (6 + r) = S 106 (r + 1)) → V D C m_mo_stands 312 [vr D 219, vi 6, a, b, d] [] (Zg g h) F := by
    intro F a b d hK hS hro hn h45 hru
    have c48' : F 219 48 = L.length := by rw [hK.1 _ _ (by omega) (by omega)]; exact c48
    refine V_iconst 0 d_mo_stands_312 ?_
    refine V_istore_1 d_mo_stands_313 rfl ?_
    refine st_codes hl L.length 0 F (by omega) (by decide) c48' (fun F' p1 q1 => ?_)
    refine K344 F' _ _ _ _ (hK.to (fun j i => j = 255 ∧ 1600 + 0 ≤ i) (fun j k hj => by rw [hj.1]; exact ⟨by decide, by decide, by show (1600 : Int) ≤ k; omega⟩) p1) (hS.fr (fun j k hj => p1 j k (by omega))) ⟨fun r r0 r1 => ?_, fun k hk => ?_⟩ (fun k k0 k1 => by rw [p1 _ _ (by omega)]; exact hn k k0 k1) (by rw [p1 _ _ (by omega)]; exact h45) (fun x y x0 x1 y0 y1 => by rw [p1 _ _ (by omega)]; exact hro x y x0 x1 y0 y1)
    · rw [p1 _ _ (by omega), p1 _ _ (by omega), p1 _ _ (by omega)]; exact hru r r0 r1
    · rw [q1 _ (by omega) (by omega), hK.2 255 k (by decide) (by decide) (by show (k : Int) < 1600; omega)]; exact m10.2 k hk
  have K245 : ∀ (F : q_F) (a b d : Value), stK f F → (∀ i, 0 ≤ i → i < 7 → F 246 (7 + i) = f 246 i) → (∀ i, 0 ≤ i → i < 32 → F 247 (32 + i) = f 247 i) → (∀ i, 0 ≤ i → i < 12 → F 248 (12 + i) = f 248 i) → (∀ i, 0 ≤ i → i < 48 → F 249 (48 + i) = f 249 i) → (∀ i, 0 ≤ i → i < 30 → F 250 (30 + i) = f 250 i ∧ F 251 (30 + i) = f 251 i) → (∀ i, 0 ≤ i → i < 5 → F 252 (5 + i) = f 252 i) → (∀ i, 0 ≤ i → i < 64 → F 253 (64 + i) = f 253 i) → (∀ i, 0 ≤ i → i < 120 → F 254 (120 + i) = f 254 i) → V D C m_mo_stands 245 [vr D 219, vi 120, a, b, d] [] (Zg g h) F := by
    intro F a b d hK h1 h2 h3 h4 h5 h6 h7 h8
    obtain ⟨hS, hro⟩ := fin F h1 h2 h3 h4 h5 h6 h7 h8
    have c44 : F 219 44 = S 0 14 := by rw [hK.1 _ _ (by omega) (by omega)]; exact m2.2.2.2.1
    refine V_aload_0 d_mo_stands_245 ?_
    refine V_aload_0 d_mo_stands_246 ?_
    refine V_getI d_mo_stands_247 fl_mo_310 is_mo ?_
    rw [c44]
    refine V_putI d_mo_stands_250 fl_mo_325 is_mo ?_
    refine V_iconst 0 d_mo_stands_253 ?_
    refine V_istore_1 d_mo_stands_254 rfl ?_
    refine st_rules 6 0 _ (by decide) (by decide) (fun F' p1 q1 => ?_)
    have p2 : ∀ j i, ¬ ((257 ≤ j ∧ j ≤ 259) ∧ 6 + 0 ≤ i) → ¬ (j = 219 ∧ i = 45) → F' j i = F j i := fun j i a b => by rw [p1 j i a, q_up_ne (by omega)]
    have hK' : stK f F' := by
      refine ⟨fun j k a b => by rw [p2 j k (by omega) b]; exact hK.1 j k a b, fun j k a b c => ?_⟩
      rw [p2 j k (fun hh => ?_) (by omega)]
      · exact hK.2 j k a b c
      · have : stB j = 6 := by
          unfold stB
          rw [if_neg (by omega), if_neg (by omega), if_neg (by omega), if_neg (by omega), if_neg (by omega), if_neg (by omega), if_neg (by omega), if_neg (by omega), if_neg (by omega), if_neg (by omega)]
        omega
    refine K312 F' _ _ _ hK' (hS.fr (fun j k hj => p2 j k (by omega) (by omega))) (fun x y x0 x1 y0 y1 => by rw [p2 _ _ (by omega) (by omega)]; exact hro x y x0 x1 y0 y1) (fun k k0 k1 => by rw [p2 _ _ (by omega) (by omega)]; exact h2 k k0 k1) (by rw [p1 _ _ (by omega), q_up_eq]) (fun r r0 r1 => ?_)
    have q2 := q1 r r0 (by omega)
    rw [q2.1, q2.2.1, q2.2.2, q_up_ne (by omega), q_up_ne (by omega), q_up_ne (by omega), hK.2 257 r (by decide) (by decide) (by show r < 6; omega), hK.2 258 r (by decide) (by decide) (by show r < 6; omega), hK.2 259 r (by decide) (by decide) (by show r < 6; omega)]
    exact m9 r r0 r1
  have K216 : ∀ (F : q_F) (a b d : Value), stK f F → (∀ i, 0 ≤ i → i < 7 → F 246 (7 + i) = f 246 i) → (∀ i, 0 ≤ i → i < 32 → F 247 (32 + i) = f 247 i) → (∀ i, 0 ≤ i → i < 12 → F 248 (12 + i) = f 248 i) → (∀ i, 0 ≤ i → i < 48 → F 249 (48 + i) = f 249 i) → (∀ i, 0 ≤ i → i < 30 → F 250 (30 + i) = f 250 i ∧ F 251 (30 + i) = f 251 i) → (∀ i, 0 ≤ i → i < 5 → F 252 (5 + i) = f 252 i) → (∀ i, 0 ≤ i → i < 64 → F 253 (64 + i) = f 253 i) → V D C m_mo_stands 216 [vr D 219, vi 64, a, b, d] [] (Zg g h) F := by
    intro F a b d hK h1 h2 h3 h4 h5 h6 h7
    refine V_iconst 0 d_mo_stands_216 ?_
    refine V_istore_1 d_mo_stands_217 rfl ?_
    refine st_sight 120 0 F (by decide) (by decide) (fun F' p1 q1 => ?_)
    exact K245 F' _ _ _ (hK.to (fun j i => j = 254 ∧ 120 + 0 ≤ i) (fun j k hj => by rw [hj.1]; exact ⟨by decide, by decide, by show (120 : Int) ≤ k; omega⟩) p1) (fun i i0 i1 => by rw [p1 _ _ (by omega)]; exact h1 i i0 i1) (fun i i0 i1 => by rw [p1 _ _ (by omega)]; exact h2 i i0 i1) (fun i i0 i1 => by rw [p1 _ _ (by omega)]; exact h3 i i0 i1) (fun i i0 i1 => by rw [p1 _ _ (by omega)]; exact h4 i i0 i1) (fun i i0 i1 => by rw [p1 _ _ (by omega), p1 _ _ (by omega)]; exact h5 i i0 i1) (fun i i0 i1 => by rw [p1 _ _ (by omega)]; exact h6 i i0 i1) (fun i i0 i1 => by rw [p1 _ _ (by omega)]; exact h7 i i0 i1) (fun i i0 i1 => by rw [q1 i i0 i1, hK.2 254 i (by decide) (by decide) (by show i < 120; omega)])
  have K187 : ∀ (F : q_F) (a b d : Value), stK f F → (∀ i, 0 ≤ i → i < 7 → F 246 (7 + i) = f 246 i) → (∀ i, 0 ≤ i → i < 32 → F 247 (32 + i) = f 247 i) → (∀ i, 0 ≤ i → i < 12 → F 248 (12 + i) = f 248 i) → (∀ i, 0 ≤ i → i < 48 → F 249 (48 + i) = f 249 i) → (∀ i, 0 ≤ i → i < 30 → F 250 (30 + i) = f 250 i ∧ F 251 (30 + i) = f 251 i) → (∀ i, 0 ≤ i → i < 5 → F 252 (5 + i) = f 252 i) → V D C m_mo_stands 187 [vr D 219, vi 5, a, b, d] [] (Zg g h) F := by
    intro F a b d hK h1 h2 h3 h4 h5 h6
    refine V_iconst 0 d_mo_stands_187 ?_
    refine V_istore_1 d_mo_stands_188 rfl ?_
    refine st_roads 64 0 F (by decide) (by decide) (fun F' p1 q1 => ?_)
    exact K216 F' _ _ _ (hK.to (fun j i => j = 253 ∧ 64 + 0 ≤ i) (fun j k hj => by rw [hj.1]; exact ⟨by decide, by decide, by show (64 : Int) ≤ k; omega⟩) p1) (fun i i0 i1 => by rw [p1 _ _ (by omega)]; exact h1 i i0 i1) (fun i i0 i1 => by rw [p1 _ _ (by omega)]; exact h2 i i0 i1) (fun i i0 i1 => by rw [p1 _ _ (by omega)]; exact h3 i i0 i1) (fun i i0 i1 => by rw [p1 _ _ (by omega)]; exact h4 i i0 i1) (fun i i0 i1 => by rw [p1 _ _ (by omega), p1 _ _ (by omega)]; exact h5 i i0 i1) (fun i i0 i1 => by rw [p1 _ _ (by omega)]; exact h6 i i0 i1) (fun i i0 i1 => by rw [q1 i i0 i1, hK.2 253 i (by decide) (by decide) (by show i < 64; omega)])
  have K160 : ∀ (F : q_F) (a b d : Value), stK f F → (∀ i, 0 ≤ i → i < 7 → F 246 (7 + i) = f 246 i) → (∀ i, 0 ≤ i → i < 32 → F 247 (32 + i) = f 247 i) → (∀ i, 0 ≤ i → i < 12 → F 248 (12 + i) = f 248 i) → (∀ i, 0 ≤ i → i < 48 → F 249 (48 + i) = f 249 i) → (∀ i, 0 ≤ i → i < 30 → F 250 (30 + i) = f 250 i ∧ F 251 (30 + i) = f 251 i) → V D C m_mo_stands 160 [vr D 219, vi 30, a, b, d] [] (Zg g h) F := by
    intro F a b d hK h1 h2 h3 h4 h5
    refine V_iconst 0 d_mo_stands_160 ?_
    refine V_istore_1 d_mo_stands_161 rfl ?_
    refine st_fees 5 0 F (by decide) (by decide) (fun F' p1 q1 => ?_)
    exact K187 F' _ _ _ (hK.to (fun j i => j = 252 ∧ 5 + 0 ≤ i) (fun j k hj => by rw [hj.1]; exact ⟨by decide, by decide, by show (5 : Int) ≤ k; omega⟩) p1) (fun i i0 i1 => by rw [p1 _ _ (by omega)]; exact h1 i i0 i1) (fun i i0 i1 => by rw [p1 _ _ (by omega)]; exact h2 i i0 i1) (fun i i0 i1 => by rw [p1 _ _ (by omega)]; exact h3 i i0 i1) (fun i i0 i1 => by rw [p1 _ _ (by omega)]; exact h4 i i0 i1) (fun i i0 i1 => by rw [p1 _ _ (by omega), p1 _ _ (by omega)]; exact h5 i i0 i1) (fun i i0 i1 => by rw [q1 i i0 i1, hK.2 252 i (by decide) (by decide) (by show i < 5; omega)])
  have K116 : ∀ (F : q_F) (a b d : Value), stK f F → (∀ i, 0 ≤ i → i < 7 → F 246 (7 + i) = f 246 i) → (∀ i, 0 ≤ i → i < 32 → F 247 (32 + i) = f 247 i) → (∀ i, 0 ≤ i → i < 12 → F 248 (12 + i) = f 248 i) → (∀ i, 0 ≤ i → i < 48 → F 249 (48 + i) = f 249 i) → V D C m_mo_stands 116 [vr D 219, vi 48, a, b, d] [] (Zg g h) F := by
    intro F a b d hK h1 h2 h3 h4
    refine V_iconst 0 d_mo_stands_116 ?_
    refine V_istore_1 d_mo_stands_117 rfl ?_
    refine st_owns 30 0 F (by decide) (by decide) (fun F' p1 q1 => ?_)
    exact K160 F' _ _ _ (hK.to (fun j i => (j = 250 ∨ j = 251) ∧ 30 + 0 ≤ i) (fun j k hj => by rcases hj.1 with e | e <;> rw [e] <;> exact ⟨by decide, by decide, by show (30 : Int) ≤ k; omega⟩) p1) (fun i i0 i1 => by rw [p1 _ _ (by omega)]; exact h1 i i0 i1) (fun i i0 i1 => by rw [p1 _ _ (by omega)]; exact h2 i i0 i1) (fun i i0 i1 => by rw [p1 _ _ (by omega)]; exact h3 i i0 i1) (fun i i0 i1 => by rw [p1 _ _ (by omega)]; exact h4 i i0 i1) (fun i i0 i1 => by rw [(q1 i i0 i1).1, (q1 i i0 i1).2, hK.2 250 i (by decide) (by decide) (by show i < 30; omega), hK.2 251 i (by decide) (by decide) (by show i < 30; omega)]; exact ⟨rfl, rfl⟩)
  have K87 : ∀ (F : q_F) (a b d : Value), stK f F → (∀ i, 0 ≤ i → i < 7 → F 246 (7 + i) = f 246 i) → (∀ i, 0 ≤ i → i < 32 → F 247 (32 + i) = f 247 i) → (∀ i, 0 ≤ i → i < 12 → F 248 (12 + i) = f 248 i) → V D C m_mo_stands 87 [vr D 219, vi 12, a, b, d] [] (Zg g h) F := by
    intro F a b d hK h1 h2 h3
    refine V_iconst 0 d_mo_stands_87 ?_
    refine V_istore_1 d_mo_stands_88 rfl ?_
    refine st_looks 48 0 F (by decide) (by decide) (fun F' p1 q1 => ?_)
    exact K116 F' _ _ _ (hK.to (fun j i => j = 249 ∧ 48 + 0 ≤ i) (fun j k hj => by rw [hj.1]; exact ⟨by decide, by decide, by show (48 : Int) ≤ k; omega⟩) p1) (fun i i0 i1 => by rw [p1 _ _ (by omega)]; exact h1 i i0 i1) (fun i i0 i1 => by rw [p1 _ _ (by omega)]; exact h2 i i0 i1) (fun i i0 i1 => by rw [p1 _ _ (by omega)]; exact h3 i i0 i1) (fun i i0 i1 => by rw [q1 i i0 i1, hK.2 249 i (by decide) (by decide) (by show i < 48; omega)])
  have K58 : ∀ (F : q_F) (a b d : Value), stK f F → (∀ i, 0 ≤ i → i < 7 → F 246 (7 + i) = f 246 i) → (∀ i, 0 ≤ i → i < 32 → F 247 (32 + i) = f 247 i) → V D C m_mo_stands 58 [vr D 219, vi 32, a, b, d] [] (Zg g h) F := by
    intro F a b d hK h1 h2
    refine V_iconst 0 d_mo_stands_58 ?_
    refine V_istore_1 d_mo_stands_59 rfl ?_
    refine st_shows 12 0 F (by decide) (by decide) (fun F' p1 q1 => ?_)
    exact K87 F' _ _ _ (hK.to (fun j i => j = 248 ∧ 12 + 0 ≤ i) (fun j k hj => by rw [hj.1]; exact ⟨by decide, by decide, by show (12 : Int) ≤ k; omega⟩) p1) (fun i i0 i1 => by rw [p1 _ _ (by omega)]; exact h1 i i0 i1) (fun i i0 i1 => by rw [p1 _ _ (by omega)]; exact h2 i i0 i1) (fun i i0 i1 => by rw [q1 i i0 i1, hK.2 248 i (by decide) (by decide) (by show i < 12; omega)])
  have K29 : ∀ (F : q_F) (a b d : Value), stK f F → (∀ i, 0 ≤ i → i < 7 → F 246 (7 + i) = f 246 i) → V D C m_mo_stands 29 [vr D 219, vi 7, a, b, d] [] (Zg g h) F := by
    intro F a b d hK h1
    refine V_iconst 0 d_mo_stands_29 ?_
    refine V_istore_1 d_mo_stands_30 rfl ?_
    refine st_names 32 0 F (by decide) (by decide) (fun F' p1 q1 => ?_)
    exact K58 F' _ _ _ (hK.to (fun j i => j = 247 ∧ 32 + 0 ≤ i) (fun j k hj => by rw [hj.1]; exact ⟨by decide, by decide, by show (32 : Int) ≤ k; omega⟩) p1) (fun i i0 i1 => by rw [p1 _ _ (by omega)]; exact h1 i i0 i1) (fun i i0 i1 => by rw [q1 i i0 i1, hK.2 247 i (by decide) (by decide) (by show i < 32; omega)])
  refine V_iconst 0 d_mo_stands_0 ?_
  refine V_istore_1 d_mo_stands_1 rfl ?_
  refine st_many 7 0 f (by decide) (by decide) (fun F' p1 q1 => ?_)
  exact K29 F' _ _ _ ((stK.refl f).to (fun j i => j = 246 ∧ 7 + 0 ≤ i) (fun j k hj => by rw [hj.1]; exact ⟨by decide, by decide, by show (7 : Int) ≤ k; omega⟩) p1) (fun i i0 i1 => q1 i i0 i1)
end STD2
