/-! the reference reads sightings: the walk -/
section RN11
variable {D : q_D} {f f' f'' S S' : q_F} {A : q_As} {g h : Int} {T : Int → Int} {N p e : Int} {L : List Int}
/-- what stands while a sighting is read -/
def vJ (S f F : q_F) : Prop := ∀ j i, ¬ (j = 219 ∧ (i = 2 ∨ i = 4 ∨ i = 5 ∨ i = 6 ∨ i = 34)) → ¬ (j = 254 ∧ 5 * S 1 4 ≤ i ∧ i < 5 * S 1 4 + 5) → F j i = f j i
def uJ (S f F S1 : q_F) (c : Int) : Prop := vJ S f F ∧ (∀ k, 0 ≤ k → k < c → F 254 (5 * S 1 4 + k) = S1 (46 + S 1 4) k) ∧ ∀ j i, ¬ j = 46 + S 1 4 → S1 j i = S j i
theorem vJ.z {F : q_F} (h : vJ S f F) (hlt : 0 ≤ S 1 4 ∧ S 1 4 < 24) : mZ f F := fun j i n => h j i (fun b => n (rdx b)) (fun b => n (by obtain ⟨rfl, b⟩ := b; exact rd254 (by omega)))
theorem vJ.mk {F F' : q_F} (h : vJ S f F) (hk : mK F F') : vJ S f F' := fun j i a b => by rw [hk _ _ a]; exact h j i a b
theorem vJ.up {F : q_F} {k v x : Int} (h : vJ S f F) (hk : 0 ≤ k ∧ k < 5) (hx : x = 5 * S 1 4 + k) : vJ S f (q_up F 254 x v) := fun j i a b => by rw [q_up_ne (by omega)]; exact h j i a b
theorem vJ.n {F : q_F} (h : vJ S f F) (hM : mN f S) (hW : pW S) : mN F S := hM.fr (fun j k hj => h j k (by omega) (by omega)) hW
theorem mN.to {S1 : q_F} (hM : mN f S) (h1 : ∀ k, 0 ≤ k → k < 4 → S1 1 k = S 1 k) (h2 : ∀ k w, 0 ≤ k → k < 4 → S1 (3 + k) w = S (3 + k) w) : mN f S1 :=
  ⟨fun k a b => by rw [h1 k a b]; exact hM.1 k a b, fun k w a b c d => by rw [h1 k a b] at d; rw [h2 k w a b]; exact hM.2 k w a b c d⟩
theorem uJ.mk {F F' S1 : q_F} {c : Int} (h : uJ S f F S1 c) (hk : mK F F') : uJ S f F' S1 c := ⟨h.1.mk hk, fun k a b => by rw [hk _ _ (by omega)]; exact h.2.1 k a b, h.2.2⟩
theorem uJ.up {F S1 : q_F} {c v x : Int} (h : uJ S f F S1 c) (hc : 0 ≤ c ∧ c < 5) (hx : x = 5 * S 1 4 + c) : uJ S f (q_up F 254 x v) (q_up S1 (46 + S 1 4) c v) (c + 1) := by
  refine ⟨h.1.up hc hx, fun k a b => ?_, fun j i a => by rw [q_up_ne (by omega)]; exact h.2.2 j i a⟩
  by_cases ek : k = c
  · rw [ek, hx, q_up_eq, q_up_eq]
  · rw [q_up_ne (by omega), q_up_ne (by omega)]; exact h.2.1 k a (by omega)
theorem ok_tkB {e0 : Int × Int} (hT : mpS f T N (.inl e0)) (hw : mW f) (i : Nat) (hi : i < 25) {c : Int} (hc : c = 221 + (i : Int)) : OkI D m_mo_takes [vr D 219, vr D c] (Zg g h) f (fun x f' => x = 0 ∧ mpS f' T N (.inl e0) ∧ mK f f') := by
  subst hc
  refine OkI.mn (ok_takes hT hw hi) ?_
  rintro x f' ⟨h1 | h1, h2, h3, -⟩
  · exact absurd h1.2 (by intro h; cases h)
  · exact ⟨h1.1, h2, h3⟩
theorem ok_seenTold (hT : mpS f T N (.inr (p, e))) (hw : mW f) (hE : mE f S L) (hW : pW S) {w : Int} : OkV D m_mo_seenTold [vr D 219, vi w] (Zg g h) f (fun f' => mP f f' T N (if S 1 4 < 24 then lf L (sSeen S T N p e) else .inl (5, w))) := by
  have hcn := hW.2.2.2.2.1
  have hc5 := hE.2.1.2.1
  refine OkV_of (L0 := [vr D 219, vi w, vu, vu]) mi_mo_seenTold rfl rfl (Nat.le_of_ble_eq_true rfl) (fun C hR => ?_)
  by_cases hc : S 1 4 = 24
  · rw [if_neg (by omega)] at hR
    refine V_aload_0 d_mo_seenTold_0 ?_
    refine V_iconst 5 d_mo_seenTold_1 ?_
    refine V_bipush 24 d_mo_seenTold_2 (by decide) ?_
    refine V_iload_1 d_mo_seenTold_4 ?_
    refine V_cvI3 d_mo_seenTold_5 ml_mo_267 mv_mo_isFull (by decide) (Nat.le_of_ble_eq_true rfl) is_mo (ok_isFull hT (by decide) (by decide) (by omega)) ?_
    rintro x F (⟨rfl, h1, t1, k1⟩ | ⟨rfl, h1, e1⟩)
    rotate_left
    exact absurd (hc5.trans hc) h1
    refine V_if_eq 12 d_mo_seenTold_8 (by decide) (by omega) (fun c8 => by omega) (fun c8 => ?_)
    refine V_return d_mo_seenTold_11 (hR _ ?_)
    exact ⟨k1.z, t1⟩
  · rw [if_pos (by omega)] at hR
    have hlt : 0 ≤ S 1 4 ∧ S 1 4 < 24 := by omega
    have bad120 : ∀ (e0 : Int × Int), sSeen S T N p e = .inl e0 → ∀ (F : q_F), mpS F T N (.inl e0) → vJ S f F → V D C m_mo_seenTold 120 [vr D 219, vi w, vi (5 * S 1 4), vi 0] [] (Zg g h) F := by
      intro e0 hr F t1 z1
      rw [hr] at hR
      have t2 : mpS (q_up F 254 (5 * S 1 4 + 4) 0) T N (.inl e0) := t1.fr (fun j i hji => by rw [q_up_ne (by omega)])
      have b2 := t2.2.2.2
      refine V_aload_0 d_mo_seenTold_120 ?_
      refine V_getR d_mo_seenTold_121 fl_mo_118 is_mo r_mo_sighted ?_
      refine V_iload_2 d_mo_seenTold_124 ?_
      refine V_iconst 4 d_mo_seenTold_125 ?_
      refine V_iadd d_mo_seenTold_126 ?_
      refine V_iload_3 d_mo_seenTold_127 ?_
      refine V_if_eq 135 d_mo_seenTold_128 (by decide) (by omega) (fun c128 => ?_) (fun c128 => by omega)
      refine V_iconst 0 d_mo_seenTold_135 ?_
      refine V_iast d_mo_seenTold_136 is_mo_sighted (by omega) (by omega) ?_
      refine V_aload_0 d_mo_seenTold_137 ?_
      refine V_getI d_mo_seenTold_138 fl_mo_185 is_mo ?_
      rw [b2.1]
      refine V_if_ne 154 d_mo_seenTold_141 (by decide) (by omega) (fun c141 => ?_) (fun c141 => by omega)
      refine V_return d_mo_seenTold_154 (hR _ ?_)
      exact ⟨(z1.up (k := 4) (by decide) rfl).z hlt, t2⟩
    have bad99 : ∀ (e0 : Int × Int), sSeen S T N p e = .inl e0 → ∀ (F : q_F), mpS F T N (.inl e0) → vJ S f F → V D C m_mo_seenTold 99 [vr D 219, vi w, vi (5 * S 1 4), vu] [] (Zg g h) F := by
      intro e0 hr F t1 z1
      refine V_aload_0 d_mo_seenTold_99 ?_
      refine V_aload_0 d_mo_seenTold_100 ?_
      refine V_getR d_mo_seenTold_101 fl_mo_51 is_mo r_mo_rainWord ?_
      refine V_cvI1 d_mo_seenTold_104 ml_mo_212 mv_mo_takes (by decide) (Nat.le_of_ble_eq_true rfl) is_mo (ok_tkB t1 ((z1.z hlt).w hw) 11 (by decide) rfl) ?_
      rintro x F2 ⟨rfl, t2, k2⟩
      refine V_istore_3 d_mo_seenTold_107 rfl ?_
      refine V_iload_3 d_mo_seenTold_108 ?_
      refine V_if_ne 120 d_mo_seenTold_109 (by decide) (by omega) (fun c109 => by omega) (fun c109 => ?_)
      refine V_aload_0 d_mo_seenTold_112 ?_
      refine V_aload_0 d_mo_seenTold_113 ?_
      refine V_getR d_mo_seenTold_114 fl_mo_54 is_mo r_mo_dryWord ?_
      refine V_cvV1 d_mo_seenTold_117 ml_mo_248 mv_mo_asks (by decide) (Nat.le_of_ble_eq_true rfl) is_mo (ok_askA t2 ((((z1.mk k2)).z hlt).w hw) 12 (by decide) rfl) ?_
      rintro F3 ⟨t3, k3⟩
      exact bad120 e0 hr F3 t3 ((z1.mk k2).mk k3)
    have bad84 : ∀ (e0 : Int × Int), sSeen S T N p e = .inl e0 → ∀ (F : q_F), mpS F T N (.inl e0) → vJ S f F → V D C m_mo_seenTold 84 [vr D 219, vi w, vi (5 * S 1 4), vu] [] (Zg g h) F := by
      intro e0 hr F t1 z1
      refine V_aload_0 d_mo_seenTold_84 ?_
      refine V_getR d_mo_seenTold_85 fl_mo_118 is_mo r_mo_sighted ?_
      refine V_iload_2 d_mo_seenTold_88 ?_
      refine V_iconst 3 d_mo_seenTold_89 ?_
      refine V_iadd d_mo_seenTold_90 ?_
      refine V_aload_0 d_mo_seenTold_91 ?_
      refine V_iconst 0 d_mo_seenTold_92 ?_
      refine V_bipush 100 d_mo_seenTold_93 (by decide) ?_
      refine V_cvI2 d_mo_seenTold_95 ml_mo_256 mv_mo_number (by decide) (Nat.le_of_ble_eq_true rfl) is_mo (ok_number t1 (by decide) (by decide)) ?_
      rintro x F2 ⟨t2, k2, x2, -⟩
      have t2 : mpS F2 T N (.inl e0) := t2
      refine V_iast d_mo_seenTold_98 is_mo_sighted (by omega) (by omega) ?_
      exact bad99 e0 hr _ (t2.fr (fun j i hji => by rw [q_up_ne (by omega)])) ((z1.mk k2).up (k := 3) (by decide) rfl)
    have bad76 : ∀ (e0 : Int × Int), sSeen S T N p e = .inl e0 → ∀ (F : q_F), mpS F T N (.inl e0) → vJ S f F → V D C m_mo_seenTold 76 [vr D 219, vi w, vi (5 * S 1 4), vu] [] (Zg g h) F := by
      intro e0 hr F t1 z1
      refine V_aload_0 d_mo_seenTold_76 ?_
      refine V_aload_0 d_mo_seenTold_77 ?_
      refine V_getR d_mo_seenTold_78 fl_mo_48 is_mo r_mo_lightWord ?_
      refine V_cvV1 d_mo_seenTold_81 ml_mo_248 mv_mo_asks (by decide) (Nat.le_of_ble_eq_true rfl) is_mo (ok_askA t1 ((z1.z hlt).w hw) 10 (by decide) rfl) ?_
      rintro F2 ⟨t2, k2⟩
      have t2 : mpS F2 T N (.inl e0) := t2
      exact bad84 e0 hr _ t2 (z1.mk k2)
    have bad61 : ∀ (e0 : Int × Int), sSeen S T N p e = .inl e0 → ∀ (F : q_F), mpS F T N (.inl e0) → vJ S f F → V D C m_mo_seenTold 61 [vr D 219, vi w, vi (5 * S 1 4), vu] [] (Zg g h) F := by
      intro e0 hr F t1 z1
      refine V_aload_0 d_mo_seenTold_61 ?_
      refine V_getR d_mo_seenTold_62 fl_mo_118 is_mo r_mo_sighted ?_
      refine V_iload_2 d_mo_seenTold_65 ?_
      refine V_iconst 2 d_mo_seenTold_66 ?_
      refine V_iadd d_mo_seenTold_67 ?_
      refine V_aload_0 d_mo_seenTold_68 ?_
      refine V_iconst 0 d_mo_seenTold_69 ?_
      refine V_bipush 99 d_mo_seenTold_70 (by decide) ?_
      refine V_cvI2 d_mo_seenTold_72 ml_mo_256 mv_mo_number (by decide) (Nat.le_of_ble_eq_true rfl) is_mo (ok_number t1 (by decide) (by decide)) ?_
      rintro x F2 ⟨t2, k2, x2, -⟩
      have t2 : mpS F2 T N (.inl e0) := t2
      refine V_iast d_mo_seenTold_75 is_mo_sighted (by omega) (by omega) ?_
      exact bad76 e0 hr _ (t2.fr (fun j i hji => by rw [q_up_ne (by omega)])) ((z1.mk k2).up (k := 2) (by decide) rfl)
    have bad53 : ∀ (e0 : Int × Int), sSeen S T N p e = .inl e0 → ∀ (F : q_F), mpS F T N (.inl e0) → vJ S f F → V D C m_mo_seenTold 53 [vr D 219, vi w, vi (5 * S 1 4), vu] [] (Zg g h) F := by
      intro e0 hr F t1 z1
      refine V_aload_0 d_mo_seenTold_53 ?_
      refine V_aload_0 d_mo_seenTold_54 ?_
      refine V_getR d_mo_seenTold_55 fl_mo_45 is_mo r_mo_hourWord ?_
      refine V_cvV1 d_mo_seenTold_58 ml_mo_248 mv_mo_asks (by decide) (Nat.le_of_ble_eq_true rfl) is_mo (ok_askA t1 ((z1.z hlt).w hw) 9 (by decide) rfl) ?_
      rintro F2 ⟨t2, k2⟩
      have t2 : mpS F2 T N (.inl e0) := t2
      exact bad61 e0 hr _ t2 (z1.mk k2)
    have bad40 : ∀ (e0 : Int × Int), sSeen S T N p e = .inl e0 → ∀ (F : q_F), mpS F T N (.inl e0) → vJ S f F → V D C m_mo_seenTold 40 [vr D 219, vi w, vi (5 * S 1 4), vu] [] (Zg g h) F := by
      intro e0 hr F t1 z1
      refine V_aload_0 d_mo_seenTold_40 ?_
      refine V_getR d_mo_seenTold_41 fl_mo_118 is_mo r_mo_sighted ?_
      refine V_iload_2 d_mo_seenTold_44 ?_
      refine V_iconst 1 d_mo_seenTold_45 ?_
      refine V_iadd d_mo_seenTold_46 ?_
      refine V_aload_0 d_mo_seenTold_47 ?_
      refine V_iconst 3 d_mo_seenTold_48 ?_
      refine V_cvI1 d_mo_seenTold_49 ml_mo_271 mv_mo_oneOf (by decide) (Nat.le_of_ble_eq_true rfl) is_mo (ok_oneOf t1 ((z1.z hlt).w hw) (z1.n hE.1 hW) hW (by decide)) ?_
      rintro x F2 ⟨t2, k2, x2, -⟩
      have t2 : mpS F2 T N (.inl e0) := t2
      refine V_iast d_mo_seenTold_52 is_mo_sighted (by omega) (by omega) ?_
      exact bad53 e0 hr _ (t2.fr (fun j i hji => by rw [q_up_ne (by omega)])) ((z1.mk k2).up (k := 1) (by decide) rfl)
    have bad32 : ∀ (e0 : Int × Int), sSeen S T N p e = .inl e0 → ∀ (F : q_F), mpS F T N (.inl e0) → vJ S f F → V D C m_mo_seenTold 32 [vr D 219, vi w, vi (5 * S 1 4), vu] [] (Zg g h) F := by
      intro e0 hr F t1 z1
      refine V_aload_0 d_mo_seenTold_32 ?_
      refine V_aload_0 d_mo_seenTold_33 ?_
      refine V_getR d_mo_seenTold_34 fl_mo_42 is_mo r_mo_atWord ?_
      refine V_cvV1 d_mo_seenTold_37 ml_mo_248 mv_mo_asks (by decide) (Nat.le_of_ble_eq_true rfl) is_mo (ok_askA t1 ((z1.z hlt).w hw) 8 (by decide) rfl) ?_
      rintro F2 ⟨t2, k2⟩
      have t2 : mpS F2 T N (.inl e0) := t2
      exact bad40 e0 hr _ t2 (z1.mk k2)
    have good120 : ∀ (r q d : Int) (F S1 : q_F), (r = 0 ∨ r = 1) → mpS F T N (.inr (q, d)) → uJ S f F S1 4 → sSeen S T N p e = .inr (q_up (q_up S1 (46 + S 1 4) 4 r) 1 4 (S 1 4 + 1), q, d) → V D C m_mo_seenTold 120 [vr D 219, vi w, vi (5 * S 1 4), vi r] [] (Zg g h) F := by
      intro r q d F S1 hr01 t1 j1 hr
      rw [hr] at hR
      have t2 : mpS (q_up F 254 (5 * S 1 4 + 4) r) T N (.inr (q, d)) := t1.fr (fun j i hji => by rw [q_up_ne (by omega)])
      have b2 := t2.2.2.2
      have j2 : uJ S f (q_up F 254 (5 * S 1 4 + 4) r) (q_up S1 (46 + S 1 4) 4 r) 5 := j1.up (c := 4) (by decide) rfl
      generalize hG : q_up F 254 (5 * S 1 4 + 4) r = G at *
      have c5 : G 246 5 = S 1 4 := by rw [j2.1 _ _ (by omega) (by omega)]; exact hc5
      have done : mP f (q_up G 246 5 (S 1 4 + 1)) T N (lf L (.inr (q_up (q_up S1 (46 + S 1 4) 4 r) 1 4 (S 1 4 + 1), q, d))) := by
        refine ⟨(j2.1.z hlt).up (by first | exact rd219 (by omega) | exact rd246 (by omega) | exact rd247 (by omega) | exact rd248 (by omega) | exact rd249 (by omega) | exact rd250 (by omega) | exact rd251 (by omega) | exact rd252 (by omega) | exact rd253 (by omega) | exact rd254 (by omega) | exact rd257 (by omega) (by omega)), t2.fr (fun j i hji => by rw [q_up_ne (by omega)]), ?_⟩
        show mE (q_up G 246 5 (S 1 4 + 1)) (q_up (q_up S1 (46 + S 1 4) 4 r) 1 4 (S 1 4 + 1)) L
        refine hE.seen hW (fun j i a b c => ?_) (q_up_eq _ _ _ _) (q_up_eq _ _ _ _) (fun j i a b => ?_) (fun k a b => ?_)
        · rw [q_up_ne (by omega)]; exact j2.1 j i a (by omega)
        · rw [q_up_ne (by omega)]; exact j2.2.2 j i b
        · rw [q_up_ne (by omega), q_up_ne (by omega)]; exact j2.2.1 k a b
      rcases hr01 with e1 | e1
      · subst e1
        refine V_aload_0 d_mo_seenTold_120 ?_
        refine V_getR d_mo_seenTold_121 fl_mo_118 is_mo r_mo_sighted ?_
        refine V_iload_2 d_mo_seenTold_124 ?_
        refine V_iconst 4 d_mo_seenTold_125 ?_
        refine V_iadd d_mo_seenTold_126 ?_
        refine V_iload_3 d_mo_seenTold_127 ?_
        refine V_if_eq 135 d_mo_seenTold_128 (by decide) (by omega) (fun c128 => ?_) (fun c128 => by omega)
        refine V_iconst 0 d_mo_seenTold_135 ?_
        refine V_iast d_mo_seenTold_136 is_mo_sighted (by omega) (by omega) ?_
        rw [hG]
        refine V_aload_0 d_mo_seenTold_137 ?_
        refine V_getI d_mo_seenTold_138 fl_mo_185 is_mo ?_
        rw [b2.1]
        refine V_if_ne 154 d_mo_seenTold_141 (by decide) (by omega) (fun c141 => by omega) (fun c141 => ?_)
        refine V_aload_0 d_mo_seenTold_144 ?_
        refine V_getR d_mo_seenTold_145 fl_mo_93 is_mo r_mo_many ?_
        refine V_iconst 5 d_mo_seenTold_148 ?_
        refine V_dup2 d_mo_seenTold_149 rfl rfl ?_
        refine V_iald d_mo_seenTold_150 is_mo_many (by omega) (by omega) ?_
        rw [c5]
        refine V_iconst 1 d_mo_seenTold_151 ?_
        refine V_iadd d_mo_seenTold_152 ?_
        refine V_iast d_mo_seenTold_153 is_mo_many (by omega) (by omega) ?_
        refine V_return d_mo_seenTold_154 (hR _ ?_)
        exact done
      · subst e1
        refine V_aload_0 d_mo_seenTold_120 ?_
        refine V_getR d_mo_seenTold_121 fl_mo_118 is_mo r_mo_sighted ?_
        refine V_iload_2 d_mo_seenTold_124 ?_
        refine V_iconst 4 d_mo_seenTold_125 ?_
        refine V_iadd d_mo_seenTold_126 ?_
        refine V_iload_3 d_mo_seenTold_127 ?_
        refine V_if_eq 135 d_mo_seenTold_128 (by decide) (by omega) (fun c128 => by omega) (fun c128 => ?_)
        refine V_iconst 1 d_mo_seenTold_131 ?_
        refine V_goto 136 d_mo_seenTold_132 (by decide) ?_
        refine V_iast d_mo_seenTold_136 is_mo_sighted (by omega) (by omega) ?_
        rw [hG]
        refine V_aload_0 d_mo_seenTold_137 ?_
        refine V_getI d_mo_seenTold_138 fl_mo_185 is_mo ?_
        rw [b2.1]
        refine V_if_ne 154 d_mo_seenTold_141 (by decide) (by omega) (fun c141 => by omega) (fun c141 => ?_)
        refine V_aload_0 d_mo_seenTold_144 ?_
        refine V_getR d_mo_seenTold_145 fl_mo_93 is_mo r_mo_many ?_
        refine V_iconst 5 d_mo_seenTold_148 ?_
        refine V_dup2 d_mo_seenTold_149 rfl rfl ?_
        refine V_iald d_mo_seenTold_150 is_mo_many (by omega) (by omega) ?_
        rw [c5]
        refine V_iconst 1 d_mo_seenTold_151 ?_
        refine V_iadd d_mo_seenTold_152 ?_
        refine V_iast d_mo_seenTold_153 is_mo_many (by omega) (by omega) ?_
        refine V_return d_mo_seenTold_154 (hR _ ?_)
        exact done
    have good99 : ∀ (q d : Int) (F S1 : q_F), mpS F T N (.inr (q, d)) → uJ S f F S1 4 → sSeen S T N p e = sSeen8 T N (S 1 4) S1 q d → V D C m_mo_seenTold 99 [vr D 219, vi w, vi (5 * S 1 4), vu] [] (Zg g h) F := by
      intro q d F S1 t1 j1 hr
      unfold sSeen8 at hr
      by_cases hwd : wd T N q d = 11
      · rw [if_pos hwd] at hr
        refine V_aload_0 d_mo_seenTold_99 ?_
        refine V_aload_0 d_mo_seenTold_100 ?_
        refine V_getR d_mo_seenTold_101 fl_mo_51 is_mo r_mo_rainWord ?_
        refine V_cvI1 d_mo_seenTold_104 ml_mo_212 mv_mo_takes (by decide) (Nat.le_of_ble_eq_true rfl) is_mo (ok_tkA t1 ((j1.1.z hlt).w hw) 11 (by decide) rfl) ?_
        rintro x F2 ⟨k2, ⟨rfl, h2, t2⟩ | ⟨rfl, h2, t2, -⟩⟩
        rotate_left
        exact absurd hwd h2
        refine V_istore_3 d_mo_seenTold_107 rfl ?_
        refine V_iload_3 d_mo_seenTold_108 ?_
        refine V_if_ne 120 d_mo_seenTold_109 (by decide) (by omega) (fun c109 => ?_) (fun c109 => by omega)
        exact good120 1 _ _ F2 S1 (Or.inr rfl) t2 (j1.mk k2) hr
      · rw [if_neg hwd] at hr
        cases hl : l_word T N 12 q d with
        | inl e0 =>
          rw [hl] at hr
          refine V_aload_0 d_mo_seenTold_99 ?_
          refine V_aload_0 d_mo_seenTold_100 ?_
          refine V_getR d_mo_seenTold_101 fl_mo_51 is_mo r_mo_rainWord ?_
          refine V_cvI1 d_mo_seenTold_104 ml_mo_212 mv_mo_takes (by decide) (Nat.le_of_ble_eq_true rfl) is_mo (ok_tkA t1 ((j1.1.z hlt).w hw) 11 (by decide) rfl) ?_
          rintro x F2 ⟨k2, ⟨rfl, h2, t2⟩ | ⟨rfl, h2, t2, -⟩⟩
          exact absurd h2 hwd
          refine V_istore_3 d_mo_seenTold_107 rfl ?_
          refine V_iload_3 d_mo_seenTold_108 ?_
          refine V_if_ne 120 d_mo_seenTold_109 (by decide) (by omega) (fun c109 => by omega) (fun c109 => ?_)
          refine V_aload_0 d_mo_seenTold_112 ?_
          refine V_aload_0 d_mo_seenTold_113 ?_
          refine V_getR d_mo_seenTold_114 fl_mo_54 is_mo r_mo_dryWord ?_
          refine V_cvV1 d_mo_seenTold_117 ml_mo_248 mv_mo_asks (by decide) (Nat.le_of_ble_eq_true rfl) is_mo (ok_askA t2 (((j1.mk k2).1.z hlt).w hw) 12 (by decide) rfl) ?_
          rintro F3 ⟨t3, k3⟩
          have t3 : mpS F3 T N (l_word T N 12 q d) := t3
          rw [hl] at t3
          exact bad120 e0 hr F3 t3 ((j1.mk k2).mk k3).1
        | inr u =>
          rw [hl] at hr
          refine V_aload_0 d_mo_seenTold_99 ?_
          refine V_aload_0 d_mo_seenTold_100 ?_
          refine V_getR d_mo_seenTold_101 fl_mo_51 is_mo r_mo_rainWord ?_
          refine V_cvI1 d_mo_seenTold_104 ml_mo_212 mv_mo_takes (by decide) (Nat.le_of_ble_eq_true rfl) is_mo (ok_tkA t1 ((j1.1.z hlt).w hw) 11 (by decide) rfl) ?_
          rintro x F2 ⟨k2, ⟨rfl, h2, t2⟩ | ⟨rfl, h2, t2, -⟩⟩
          exact absurd h2 hwd
          refine V_istore_3 d_mo_seenTold_107 rfl ?_
          refine V_iload_3 d_mo_seenTold_108 ?_
          refine V_if_ne 120 d_mo_seenTold_109 (by decide) (by omega) (fun c109 => by omega) (fun c109 => ?_)
          refine V_aload_0 d_mo_seenTold_112 ?_
          refine V_aload_0 d_mo_seenTold_113 ?_
          refine V_getR d_mo_seenTold_114 fl_mo_54 is_mo r_mo_dryWord ?_
          refine V_cvV1 d_mo_seenTold_117 ml_mo_248 mv_mo_asks (by decide) (Nat.le_of_ble_eq_true rfl) is_mo (ok_askA t2 (((j1.mk k2).1.z hlt).w hw) 12 (by decide) rfl) ?_
          rintro F3 ⟨t3, k3⟩
          have t3 : mpS F3 T N (l_word T N 12 q d) := t3
          rw [hl] at t3
          exact good120 0 _ _ F3 S1 (Or.inl rfl) t3 ((j1.mk k2).mk k3) hr
    have good84 : ∀ (q d : Int) (F S1 : q_F), mpS F T N (.inr (q, d)) → uJ S f F S1 3 → sSeen S T N p e = sSeen7 T N (S 1 4) S1 q d → V D C m_mo_seenTold 84 [vr D 219, vi w, vi (5 * S 1 4), vu] [] (Zg g h) F := by
      intro q d F S1 t1 j1 hr
      unfold sSeen7 sNum at hr
      cases hl : l_num T N 0 100 q d with
      | inl e0 =>
        rw [hl] at hr
        refine V_aload_0 d_mo_seenTold_84 ?_
        refine V_getR d_mo_seenTold_85 fl_mo_118 is_mo r_mo_sighted ?_
        refine V_iload_2 d_mo_seenTold_88 ?_
        refine V_iconst 3 d_mo_seenTold_89 ?_
        refine V_iadd d_mo_seenTold_90 ?_
        refine V_aload_0 d_mo_seenTold_91 ?_
        refine V_iconst 0 d_mo_seenTold_92 ?_
        refine V_bipush 100 d_mo_seenTold_93 (by decide) ?_
        refine V_cvI2 d_mo_seenTold_95 ml_mo_256 mv_mo_number (by decide) (Nat.le_of_ble_eq_true rfl) is_mo (ok_number t1 (by decide) (by decide)) ?_
        rintro x F2 ⟨t2, k2, x2, -⟩
        have t2 : mpS F2 T N (pst (l_num T N 0 100 q d)) := t2
        rw [hl] at t2
        have t2 : mpS F2 T N (.inl e0) := t2
        refine V_iast d_mo_seenTold_98 is_mo_sighted (by omega) (by omega) ?_
        exact bad99 e0 hr _ (t2.fr (fun j i hji => by rw [q_up_ne (by omega)])) ((j1.1.mk k2).up (k := 3) (by decide) rfl)
      | inr u =>
        obtain ⟨v, q', d'⟩ := u
        rw [hl] at hr
        refine V_aload_0 d_mo_seenTold_84 ?_
        refine V_getR d_mo_seenTold_85 fl_mo_118 is_mo r_mo_sighted ?_
        refine V_iload_2 d_mo_seenTold_88 ?_
        refine V_iconst 3 d_mo_seenTold_89 ?_
        refine V_iadd d_mo_seenTold_90 ?_
        refine V_aload_0 d_mo_seenTold_91 ?_
        refine V_iconst 0 d_mo_seenTold_92 ?_
        refine V_bipush 100 d_mo_seenTold_93 (by decide) ?_
        refine V_cvI2 d_mo_seenTold_95 ml_mo_256 mv_mo_number (by decide) (Nat.le_of_ble_eq_true rfl) is_mo (ok_number t1 (by decide) (by decide)) ?_
        rintro x F2 ⟨t2, k2, x2, x3⟩
        have t2 : mpS F2 T N (pst (l_num T N 0 100 q d)) := t2
        rw [hl] at t2
        have t2 : mpS F2 T N (.inr (q', d')) := t2
        have x3 : x = v := x3 v q' d' hl
        rw [x3]
        refine V_iast d_mo_seenTold_98 is_mo_sighted (by omega) (by omega) ?_
        exact good99 q' d' _ _ (t2.fr (fun j i hji => by rw [q_up_ne (by omega)])) ((j1.mk k2).up (c := 3) (by decide) rfl) hr
    have good76 : ∀ (q d : Int) (F S1 : q_F), mpS F T N (.inr (q, d)) → uJ S f F S1 3 → sSeen S T N p e = sSeen6 T N (S 1 4) S1 q d → V D C m_mo_seenTold 76 [vr D 219, vi w, vi (5 * S 1 4), vu] [] (Zg g h) F := by
      intro q d F S1 t1 j1 hr
      unfold sSeen6 at hr
      cases hl : l_word T N 10 q d with
      | inl e0 =>
        rw [hl] at hr
        refine V_aload_0 d_mo_seenTold_76 ?_
        refine V_aload_0 d_mo_seenTold_77 ?_
        refine V_getR d_mo_seenTold_78 fl_mo_48 is_mo r_mo_lightWord ?_
        refine V_cvV1 d_mo_seenTold_81 ml_mo_248 mv_mo_asks (by decide) (Nat.le_of_ble_eq_true rfl) is_mo (ok_askA t1 ((j1.1.z hlt).w hw) 10 (by decide) rfl) ?_
        rintro F2 ⟨t2, k2⟩
        have t2 : mpS F2 T N (l_word T N 10 q d) := t2
        rw [hl] at t2
        exact bad84 e0 hr _ t2 (j1.1.mk k2)
      | inr u =>
        obtain ⟨q', d'⟩ := u
        rw [hl] at hr
        refine V_aload_0 d_mo_seenTold_76 ?_
        refine V_aload_0 d_mo_seenTold_77 ?_
        refine V_getR d_mo_seenTold_78 fl_mo_48 is_mo r_mo_lightWord ?_
        refine V_cvV1 d_mo_seenTold_81 ml_mo_248 mv_mo_asks (by decide) (Nat.le_of_ble_eq_true rfl) is_mo (ok_askA t1 ((j1.1.z hlt).w hw) 10 (by decide) rfl) ?_
        rintro F2 ⟨t2, k2⟩
        have t2 : mpS F2 T N (l_word T N 10 q d) := t2
        rw [hl] at t2
        exact good84 q' d' _ S1 t2 (j1.mk k2) hr
    have good61 : ∀ (q d : Int) (F S1 : q_F), mpS F T N (.inr (q, d)) → uJ S f F S1 2 → sSeen S T N p e = sSeen5 T N (S 1 4) S1 q d → V D C m_mo_seenTold 61 [vr D 219, vi w, vi (5 * S 1 4), vu] [] (Zg g h) F := by
      intro q d F S1 t1 j1 hr
      unfold sSeen5 sNum at hr
      cases hl : l_num T N 0 99 q d with
      | inl e0 =>
        rw [hl] at hr
        refine V_aload_0 d_mo_seenTold_61 ?_
        refine V_getR d_mo_seenTold_62 fl_mo_118 is_mo r_mo_sighted ?_
        refine V_iload_2 d_mo_seenTold_65 ?_
        refine V_iconst 2 d_mo_seenTold_66 ?_
        refine V_iadd d_mo_seenTold_67 ?_
        refine V_aload_0 d_mo_seenTold_68 ?_
        refine V_iconst 0 d_mo_seenTold_69 ?_
        refine V_bipush 99 d_mo_seenTold_70 (by decide) ?_
        refine V_cvI2 d_mo_seenTold_72 ml_mo_256 mv_mo_number (by decide) (Nat.le_of_ble_eq_true rfl) is_mo (ok_number t1 (by decide) (by decide)) ?_
        rintro x F2 ⟨t2, k2, x2, -⟩
        have t2 : mpS F2 T N (pst (l_num T N 0 99 q d)) := t2
        rw [hl] at t2
        have t2 : mpS F2 T N (.inl e0) := t2
        refine V_iast d_mo_seenTold_75 is_mo_sighted (by omega) (by omega) ?_
        exact bad76 e0 hr _ (t2.fr (fun j i hji => by rw [q_up_ne (by omega)])) ((j1.1.mk k2).up (k := 2) (by decide) rfl)
      | inr u =>
        obtain ⟨v, q', d'⟩ := u
        rw [hl] at hr
        refine V_aload_0 d_mo_seenTold_61 ?_
        refine V_getR d_mo_seenTold_62 fl_mo_118 is_mo r_mo_sighted ?_
        refine V_iload_2 d_mo_seenTold_65 ?_
        refine V_iconst 2 d_mo_seenTold_66 ?_
        refine V_iadd d_mo_seenTold_67 ?_
        refine V_aload_0 d_mo_seenTold_68 ?_
        refine V_iconst 0 d_mo_seenTold_69 ?_
        refine V_bipush 99 d_mo_seenTold_70 (by decide) ?_
        refine V_cvI2 d_mo_seenTold_72 ml_mo_256 mv_mo_number (by decide) (Nat.le_of_ble_eq_true rfl) is_mo (ok_number t1 (by decide) (by decide)) ?_
        rintro x F2 ⟨t2, k2, x2, x3⟩
        have t2 : mpS F2 T N (pst (l_num T N 0 99 q d)) := t2
        rw [hl] at t2
        have t2 : mpS F2 T N (.inr (q', d')) := t2
        have x3 : x = v := x3 v q' d' hl
        rw [x3]
        refine V_iast d_mo_seenTold_75 is_mo_sighted (by omega) (by omega) ?_
        exact good76 q' d' _ _ (t2.fr (fun j i hji => by rw [q_up_ne (by omega)])) ((j1.mk k2).up (c := 2) (by decide) rfl) hr
    have good53 : ∀ (q d : Int) (F S1 : q_F), mpS F T N (.inr (q, d)) → uJ S f F S1 2 → sSeen S T N p e = sSeen4 T N (S 1 4) S1 q d → V D C m_mo_seenTold 53 [vr D 219, vi w, vi (5 * S 1 4), vu] [] (Zg g h) F := by
      intro q d F S1 t1 j1 hr
      unfold sSeen4 at hr
      cases hl : l_word T N 9 q d with
      | inl e0 =>
        rw [hl] at hr
        refine V_aload_0 d_mo_seenTold_53 ?_
        refine V_aload_0 d_mo_seenTold_54 ?_
        refine V_getR d_mo_seenTold_55 fl_mo_45 is_mo r_mo_hourWord ?_
        refine V_cvV1 d_mo_seenTold_58 ml_mo_248 mv_mo_asks (by decide) (Nat.le_of_ble_eq_true rfl) is_mo (ok_askA t1 ((j1.1.z hlt).w hw) 9 (by decide) rfl) ?_
        rintro F2 ⟨t2, k2⟩
        have t2 : mpS F2 T N (l_word T N 9 q d) := t2
        rw [hl] at t2
        exact bad61 e0 hr _ t2 (j1.1.mk k2)
      | inr u =>
        obtain ⟨q', d'⟩ := u
        rw [hl] at hr
        refine V_aload_0 d_mo_seenTold_53 ?_
        refine V_aload_0 d_mo_seenTold_54 ?_
        refine V_getR d_mo_seenTold_55 fl_mo_45 is_mo r_mo_hourWord ?_
        refine V_cvV1 d_mo_seenTold_58 ml_mo_248 mv_mo_asks (by decide) (Nat.le_of_ble_eq_true rfl) is_mo (ok_askA t1 ((j1.1.z hlt).w hw) 9 (by decide) rfl) ?_
        rintro F2 ⟨t2, k2⟩
        have t2 : mpS F2 T N (l_word T N 9 q d) := t2
        rw [hl] at t2
        exact good61 q' d' _ S1 t2 (j1.mk k2) hr
    have good40 : ∀ (q d : Int) (F S1 : q_F), mpS F T N (.inr (q, d)) → uJ S f F S1 1 → pW S1 → sSeen S T N p e = sSeen3 T N (S 1 4) S1 q d → V D C m_mo_seenTold 40 [vr D 219, vi w, vi (5 * S 1 4), vu] [] (Zg g h) F := by
      intro q d F S1 t1 j1 hW1 hr
      have hM1 : mN F S1 := (j1.1.n hE.1 hW).to (fun k a b => j1.2.2 _ _ (by omega)) (fun k w a b => j1.2.2 _ _ (by omega))
      unfold sSeen3 at hr
      have ro : rb (.inr (q, d) : q_R (Int × Int)) (fun u => sOld S1 T N 3 u.1 u.2) = sOld S1 T N 3 q d := rfl
      cases hl : sOld S1 T N 3 q d with
      | inl e0 =>
        rw [hl] at hr
        refine V_aload_0 d_mo_seenTold_40 ?_
        refine V_getR d_mo_seenTold_41 fl_mo_118 is_mo r_mo_sighted ?_
        refine V_iload_2 d_mo_seenTold_44 ?_
        refine V_iconst 1 d_mo_seenTold_45 ?_
        refine V_iadd d_mo_seenTold_46 ?_
        refine V_aload_0 d_mo_seenTold_47 ?_
        refine V_iconst 3 d_mo_seenTold_48 ?_
        refine V_cvI1 d_mo_seenTold_49 ml_mo_271 mv_mo_oneOf (by decide) (Nat.le_of_ble_eq_true rfl) is_mo (ok_oneOf t1 ((j1.1.z hlt).w hw) hM1 hW1 (by decide)) ?_
        rintro x F2 ⟨t2, k2, x2, -⟩
        rw [ro, hl] at t2
        have t2 : mpS F2 T N (.inl e0) := t2
        refine V_iast d_mo_seenTold_52 is_mo_sighted (by omega) (by omega) ?_
        exact bad53 e0 hr _ (t2.fr (fun j i hji => by rw [q_up_ne (by omega)])) ((j1.1.mk k2).up (k := 1) (by decide) rfl)
      | inr u =>
        obtain ⟨v, q', d'⟩ := u
        rw [hl] at hr
        refine V_aload_0 d_mo_seenTold_40 ?_
        refine V_getR d_mo_seenTold_41 fl_mo_118 is_mo r_mo_sighted ?_
        refine V_iload_2 d_mo_seenTold_44 ?_
        refine V_iconst 1 d_mo_seenTold_45 ?_
        refine V_iadd d_mo_seenTold_46 ?_
        refine V_aload_0 d_mo_seenTold_47 ?_
        refine V_iconst 3 d_mo_seenTold_48 ?_
        refine V_cvI1 d_mo_seenTold_49 ml_mo_271 mv_mo_oneOf (by decide) (Nat.le_of_ble_eq_true rfl) is_mo (ok_oneOf t1 ((j1.1.z hlt).w hw) hM1 hW1 (by decide)) ?_
        rintro x F2 ⟨t2, k2, x2, x3⟩
        rw [ro, hl] at t2
        have t2 : mpS F2 T N (.inr (q', d')) := t2
        have x3 : x = v := (x3 v q' d' hl).1
        rw [x3]
        refine V_iast d_mo_seenTold_52 is_mo_sighted (by omega) (by omega) ?_
        exact good53 q' d' _ _ (t2.fr (fun j i hji => by rw [q_up_ne (by omega)])) ((j1.mk k2).up (c := 1) (by decide) rfl) hr
    have good32 : ∀ (q d : Int) (F S1 : q_F), mpS F T N (.inr (q, d)) → uJ S f F S1 1 → pW S1 → sSeen S T N p e = sSeen2 T N (S 1 4) S1 q d → V D C m_mo_seenTold 32 [vr D 219, vi w, vi (5 * S 1 4), vu] [] (Zg g h) F := by
      intro q d F S1 t1 j1 hW1 hr
      unfold sSeen2 at hr
      cases hl : l_word T N 8 q d with
      | inl e0 =>
        rw [hl] at hr
        refine V_aload_0 d_mo_seenTold_32 ?_
        refine V_aload_0 d_mo_seenTold_33 ?_
        refine V_getR d_mo_seenTold_34 fl_mo_42 is_mo r_mo_atWord ?_
        refine V_cvV1 d_mo_seenTold_37 ml_mo_248 mv_mo_asks (by decide) (Nat.le_of_ble_eq_true rfl) is_mo (ok_askA t1 ((j1.1.z hlt).w hw) 8 (by decide) rfl) ?_
        rintro F2 ⟨t2, k2⟩
        have t2 : mpS F2 T N (l_word T N 8 q d) := t2
        rw [hl] at t2
        exact bad40 e0 hr _ t2 (j1.1.mk k2)
      | inr u =>
        obtain ⟨q', d'⟩ := u
        rw [hl] at hr
        refine V_aload_0 d_mo_seenTold_32 ?_
        refine V_aload_0 d_mo_seenTold_33 ?_
        refine V_getR d_mo_seenTold_34 fl_mo_42 is_mo r_mo_atWord ?_
        refine V_cvV1 d_mo_seenTold_37 ml_mo_248 mv_mo_asks (by decide) (Nat.le_of_ble_eq_true rfl) is_mo (ok_askA t1 ((j1.1.z hlt).w hw) 8 (by decide) rfl) ?_
        rintro F2 ⟨t2, k2⟩
        have t2 : mpS F2 T N (l_word T N 8 q d) := t2
        rw [hl] at t2
        exact good40 q' d' _ S1 t2 (j1.mk k2) hW1 hr
    have ro : rb (.inr (p, e) : q_R (Int × Int)) (fun u => sOld S T N 1 u.1 u.2) = sOld S T N 1 p e := rfl
    have v0 : vJ S f f := fun _ _ _ _ => rfl
    have u0 : uJ S f f S 0 := ⟨v0, fun k a b => by omega, fun _ _ _ => rfl⟩
    cases hl : sOld S T N 1 p e with
    | inl e0 =>
      have hr : sSeen S T N p e = .inl e0 := by unfold sSeen; rw [hl]; rfl
      refine V_aload_0 d_mo_seenTold_0 ?_
      refine V_iconst 5 d_mo_seenTold_1 ?_
      refine V_bipush 24 d_mo_seenTold_2 (by decide) ?_
      refine V_iload_1 d_mo_seenTold_4 ?_
      refine V_cvI3 d_mo_seenTold_5 ml_mo_267 mv_mo_isFull (by decide) (Nat.le_of_ble_eq_true rfl) is_mo (ok_isFull hT (by decide) (by decide) (by omega)) ?_
      rintro x F (⟨rfl, h1, t1, k1⟩ | ⟨rfl, h1, e1⟩)
      exact absurd (hc5.symm.trans h1) hc
      rw [e1]; clear e1 F
      refine V_if_eq 12 d_mo_seenTold_8 (by decide) (by omega) (fun c8 => ?_) (fun c8 => by omega)
      refine V_iconst 5 d_mo_seenTold_12 ?_
      refine V_aload_0 d_mo_seenTold_13 ?_
      refine V_getR d_mo_seenTold_14 fl_mo_93 is_mo r_mo_many ?_
      refine V_iconst 5 d_mo_seenTold_17 ?_
      refine V_iald d_mo_seenTold_18 is_mo_many (by omega) (by omega) ?_
      rw [hc5]
      refine V_imul d_mo_seenTold_19 ?_
      refine V_istore_2 d_mo_seenTold_20 rfl ?_
      refine V_aload_0 d_mo_seenTold_21 ?_
      refine V_getR d_mo_seenTold_22 fl_mo_118 is_mo r_mo_sighted ?_
      refine V_iload_2 d_mo_seenTold_25 ?_
      refine V_aload_0 d_mo_seenTold_26 ?_
      refine V_iconst 1 d_mo_seenTold_27 ?_
      refine V_cvI1 d_mo_seenTold_28 ml_mo_271 mv_mo_oneOf (by decide) (Nat.le_of_ble_eq_true rfl) is_mo (ok_oneOf hT hw hE.1 hW (by decide)) ?_
      rintro x F2 ⟨t2, k2, x2, -⟩
      rw [ro, hl] at t2
      have t2 : mpS F2 T N (.inl e0) := t2
      refine V_iast d_mo_seenTold_31 is_mo_sighted (by omega) (by omega) ?_
      exact bad32 e0 hr _ (t2.fr (fun j i hji => by rw [q_up_ne (by omega)])) ((v0.mk k2).up (k := 0) (by decide) (by omega))
    | inr u =>
      obtain ⟨v, q', d'⟩ := u
      have hr : sSeen S T N p e = sSeen2 T N (S 1 4) (q_up S (46 + S 1 4) 0 v) q' d' := by unfold sSeen; rw [hl]; rfl
      refine V_aload_0 d_mo_seenTold_0 ?_
      refine V_iconst 5 d_mo_seenTold_1 ?_
      refine V_bipush 24 d_mo_seenTold_2 (by decide) ?_
      refine V_iload_1 d_mo_seenTold_4 ?_
      refine V_cvI3 d_mo_seenTold_5 ml_mo_267 mv_mo_isFull (by decide) (Nat.le_of_ble_eq_true rfl) is_mo (ok_isFull hT (by decide) (by decide) (by omega)) ?_
      rintro x F (⟨rfl, h1, t1, k1⟩ | ⟨rfl, h1, e1⟩)
      exact absurd (hc5.symm.trans h1) hc
      rw [e1]; clear e1 F
      refine V_if_eq 12 d_mo_seenTold_8 (by decide) (by omega) (fun c8 => ?_) (fun c8 => by omega)
      refine V_iconst 5 d_mo_seenTold_12 ?_
      refine V_aload_0 d_mo_seenTold_13 ?_
      refine V_getR d_mo_seenTold_14 fl_mo_93 is_mo r_mo_many ?_
      refine V_iconst 5 d_mo_seenTold_17 ?_
      refine V_iald d_mo_seenTold_18 is_mo_many (by omega) (by omega) ?_
      rw [hc5]
      refine V_imul d_mo_seenTold_19 ?_
      refine V_istore_2 d_mo_seenTold_20 rfl ?_
      refine V_aload_0 d_mo_seenTold_21 ?_
      refine V_getR d_mo_seenTold_22 fl_mo_118 is_mo r_mo_sighted ?_
      refine V_iload_2 d_mo_seenTold_25 ?_
      refine V_aload_0 d_mo_seenTold_26 ?_
      refine V_iconst 1 d_mo_seenTold_27 ?_
      refine V_cvI1 d_mo_seenTold_28 ml_mo_271 mv_mo_oneOf (by decide) (Nat.le_of_ble_eq_true rfl) is_mo (ok_oneOf hT hw hE.1 hW (by decide)) ?_
      rintro x F2 ⟨t2, k2, x2, x3⟩
      rw [ro, hl] at t2
      have t2 : mpS F2 T N (.inr (q', d')) := t2
      have x3 : x = v := (x3 v q' d' hl).1
      rw [x3]
      refine V_iast d_mo_seenTold_31 is_mo_sighted (by omega) (by omega) ?_
      exact good32 q' d' _ _ (t2.fr (fun j i hji => by rw [q_up_ne (by omega)])) ((u0.mk k2).up (c := 0) (by decide) (by omega)) (hW.up (by omega)) hr
end RN11
