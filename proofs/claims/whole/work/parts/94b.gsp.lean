/-! what follows from a text: the class's part -/
def pssF (S : q_F) (i s : Int) : Nat → Int → Int → Int
  | 0, _, v => v
  | m + 1, t, v => pssF S i s m (t + 1) (if ¬ S (24 + i) t = S (15 + S (46 + s) 0) t ∧ S (30 + i) t = 0 then v * (10000 - S (8 + t) (S (46 + s) 4) * S (46 + s) 3) / 10000 else v)
/-- how likely a shade passes -/
def pss (S : q_F) (i s : Int) : Int := pssF S i s (S 1 0).toNat 0 1000
def unlF (S : q_F) (i s : Int) : Nat → Int → Int → Int
  | 0, _, v => v
  | m + 1, t, v => unlF S i s m (t + 1) (if S (24 + i) t = S (15 + S (46 + s) 0) t then v else v + 1)
def unl (S : q_F) (i s : Int) : Int := unlF S i s (S 1 0).toNat 0 0
/-- the guild's cells but for what is reckoned -/
def gv (h : Int) (f S : q_F) : Prop := ∀ j k, 0 ≤ j → (j < 37 ∨ (45 ≤ j ∧ j < 70)) → f (h + j) k = S j k
/-- what was told, as far as passing needs it -/
def pY (S : q_F) : Prop := pW S ∧ xSi S ∧ xSh S ∧ xLo S ∧ xTr S
section GSP
variable {D : q_D} {f f' S : q_F} {A : q_As} {g h : Int} {L : List Int}
theorem mul_rg {x y a b : Int} (hx : 0 ≤ x ∧ x ≤ a) (hy : 0 ≤ y ∧ y ≤ b) : 0 ≤ x * y ∧ x * y ≤ a * b := ⟨Int.mul_nonneg hx.1 hy.1, Int.mul_le_mul hx.2 hy.2 hy.1 (by omega)⟩
theorem stp_rg {v x : Int} (hv : 0 ≤ v ∧ v ≤ 1000) (hx : 0 ≤ x ∧ x ≤ 10000) : (0 ≤ v * (10000 - x) ∧ v * (10000 - x) ≤ 10000000) ∧ (0 ≤ v * (10000 - x) / 10000 ∧ v * (10000 - x) / 10000 ≤ 1000) := by
  have := mul_rg hv (y := 10000 - x) (b := 10000) (by omega)
  omega
theorem gv.ct (hG : gv h f S) (k : Int) : f (h + 1) k = S 1 k := hG 1 k (by decide) (by decide)
theorem gv.sg (hG : gv h f S) {s : Int} (h0 : 0 ≤ s ∧ s < 24) (k : Int) : f (h + 46 + s) k = S (46 + s) k := by
  have := hG (46 + s) k (by omega) (by omega); rw [show h + (46 + s) = h + 46 + s by omega] at this; exact this
theorem gv.lo (hG : gv h f S) {s : Int} (h0 : 0 ≤ s ∧ s < 8) (k : Int) : f (h + 15 + s) k = S (15 + s) k := by
  have := hG (15 + s) k (by omega) (by omega); rw [show h + (15 + s) = h + 15 + s by omega] at this; exact this
theorem gv.ow (hG : gv h f S) {s : Int} (h0 : 0 ≤ s ∧ s < 5) (k : Int) : f (h + 24 + s) k = S (24 + s) k := by
  have := hG (24 + s) k (by omega) (by omega); rw [show h + (24 + s) = h + 24 + s by omega] at this; exact this
theorem gv.fa (hG : gv h f S) {s : Int} (h0 : 0 ≤ s ∧ s < 5) (k : Int) : f (h + 30 + s) k = S (30 + s) k := by
  have := hG (30 + s) k (by omega) (by omega); rw [show h + (30 + s) = h + 30 + s by omega] at this; exact this
theorem gv.sw (hG : gv h f S) {s : Int} (h0 : 0 ≤ s ∧ s < 6) (k : Int) : f (h + 8 + s) k = S (8 + s) k := by
  have := hG (8 + s) k (by omega) (by omega); rw [show h + (8 + s) = h + 8 + s by omega] at this; exact this
theorem gv.fe (hG : gv h f S) (k : Int) : f (h + 35) k = S 35 k := hG 35 k (by decide) (by decide)
theorem gv.fr (hG : gv h f S) (hf : ∀ j k, ¬ (h + 37 ≤ j ∧ j < h + 45) → ¬ (h + 70 ≤ j ∧ j < h + 84) → (h ≤ j ∧ j < h + 84) → f' j k = f j k) : gv h f' S := fun j k j0 j1 => by rw [hf _ _ (by omega) (by omega) (by omega)]; exact hG j k j0 j1
theorem pssF_rg (hY : pY S) {i s : Int} (hi : 0 ≤ i ∧ i < S 1 2) (hs : 0 ≤ s ∧ s < S 1 4) : ∀ (m : Nat) (t v : Int), 0 ≤ t → t + m = S 1 0 → (0 ≤ v ∧ v ≤ 1000) → 0 ≤ pssF S i s m t v ∧ pssF S i s m t v ≤ 1000 := by
  intro m
  induction m with
  | zero => intro t v _ _ hv; exact hv
  | succ m ih =>
    intro t v t0 tm hv
    refine ih _ _ (by omega) (by push_cast at tm; omega) ?_
    have hx := hY.2.1 s hs.1 hs.2
    have h8 := hY.2.2.2.2 t (S (46 + s) 4) t0 (by omega) hx.2.2.2.2.1 (by omega)
    split
    · exact (stp_rg hv (mul_rg h8 hx.2.2.2.1)).2
    · exact hv
theorem pss_rg (hY : pY S) {i s : Int} (hi : 0 ≤ i ∧ i < S 1 2) (hs : 0 ≤ s ∧ s < S 1 4) : 0 ≤ pss S i s ∧ pss S i s ≤ 1000 := by
  have := hY.1.1
  exact pssF_rg hY hi hs _ _ _ (by decide) (by omega) (by decide)
theorem unlF_rg {i s : Int} : ∀ (m : Nat) (t v : Int), v ≤ unlF S i s m t v ∧ unlF S i s m t v ≤ v + m := by
  intro m
  induction m with
  | zero => intro t v; exact ⟨Int.le_refl _, by show v ≤ v + 0; omega⟩
  | succ m ih =>
    intro t v
    by_cases hc : S (24 + i) t = S (15 + S (46 + s) 0) t
    · have g := ih (t + 1) v
      have e : unlF S i s (m + 1) t v = unlF S i s m (t + 1) v := by
        show unlF S i s m (t + 1) (if S (24 + i) t = S (15 + S (46 + s) 0) t then v else v + 1) = _
        rw [if_pos hc]
      rw [e]; push_cast; omega
    · have g := ih (t + 1) (v + 1)
      have e : unlF S i s (m + 1) t v = unlF S i s m (t + 1) (v + 1) := by
        show unlF S i s m (t + 1) (if S (24 + i) t = S (15 + S (46 + s) 0) t then v else v + 1) = _
        rw [if_neg hc]
      rw [e]; push_cast; omega
theorem unl_rg (hW : pW S) {i s : Int} : 0 ≤ unl S i s ∧ unl S i s ≤ 6 := by
  have := unlF_rg (S := S) (i := i) (s := s) (S 1 0).toNat 0 0
  have := hW.1
  unfold unl; omega
theorem ok_passOf (hh : q_G h) (hG : gv h f S) (hY : pY S) {i s : Int} (hi : 0 ≤ i ∧ i < S 1 2) (hs : 0 ≤ s ∧ s < S 1 4) : OkI D m_gd_passOf [vr D h, vi i, vi s] (Zg g h) f (fun x f' => x = pss S i s ∧ f' = f) := by
  have hg2 := q_G51 hh
  have hW := hY.1
  have b0 := hW.1
  have b1 := hW.2.1
  have b2 := hW.2.2.1
  have b4 := hW.2.2.2.2.1
  have c0 := hG.ct 0
  have hx := hY.2.1 s hs.1 hs.2
  have s0 := hG.sg (s := s) (by omega) 0
  have s3 := hG.sg (s := s) (by omega) 3
  have s4 := hG.sg (s := s) (by omega) 4
  refine OkI_of (L0 := [vr D h, vi i, vi s, vu, vu, vu, vu]) mi_gd_passOf rfl rfl (Nat.le_of_ble_eq_true rfl) (fun C hR => ?_)
  have loop : ∀ (m : Nat) (t v : Int) (u : Value), 0 ≤ t → t + m = S 1 0 → (0 ≤ v ∧ v ≤ 1000) → pssF S i s m t v = pss S i s → V D C m_gd_passOf 22 [vr D h, vi i, vi s, vr D (h + 15 + S (46 + s) 0), vi v, vi t, u] [] (Zg g h) f := by
    intro m
    induction m with
    | zero =>
      intro t v u t0 tm hv hr
      refine V_iload_5 d_gd_passOf_22 ?_
      refine V_aload_0 d_gd_passOf_24 ?_
      refine V_getR d_gd_passOf_25 fl_gd_9 (is_gd hh) (r_gd_counts hh) ?_
      refine V_iconst 0 d_gd_passOf_28 ?_
      refine V_iald d_gd_passOf_29 (is_gd_counts hh) (by omega) (by omega) ?_
      rw [c0]
      refine V_icmp_ge 109 d_gd_passOf_30 (by decide) (by omega) (by omega) (fun c30 => ?_) (fun c30 => by omega)
      refine V_iload_4 d_gd_passOf_109 ?_
      refine V_ireturn d_gd_passOf_111 (hR _ _ ?_)
      exact ⟨hr, rfl⟩
    | succ m ih =>
      intro t v u t0 tm hv hr
      have h8 := hY.2.2.2.2 t (S (46 + s) 4) t0 (by omega) hx.2.2.2.2.1 (by omega)
      have lo := hG.lo (s := S (46 + s) 0) (by omega) t
      have ow := hG.ow (s := i) (by omega) t
      have fa := hG.fa (s := i) (by omega) t
      have sw := hG.sw (s := t) (by omega) (S (46 + s) 4)
      have rl := hY.2.2.2.1 (S (46 + s) 0) t (by omega) (by omega) t0 (by omega)
      have rs := (hY.2.2.1 i hi.1 hi.2).2 t t0 (by omega)
      have hm := mul_rg h8 hx.2.2.2.1
      have hst := stp_rg hv hm
      have hr : pssF S i s m (t + 1) (if ¬ S (24 + i) t = S (15 + S (46 + s) 0) t ∧ S (30 + i) t = 0 then v * (10000 - S (8 + t) (S (46 + s) 4) * S (46 + s) 3) / 10000 else v) = pss S i s := hr
      refine V_iload_5 d_gd_passOf_22 ?_
      refine V_aload_0 d_gd_passOf_24 ?_
      refine V_getR d_gd_passOf_25 fl_gd_9 (is_gd hh) (r_gd_counts hh) ?_
      refine V_iconst 0 d_gd_passOf_28 ?_
      refine V_iald d_gd_passOf_29 (is_gd_counts hh) (by omega) (by omega) ?_
      rw [c0]
      refine V_icmp_ge 109 d_gd_passOf_30 (by decide) (by omega) (by omega) (fun c30 => by omega) (fun c30 => ?_)
      refine V_aload_0 d_gd_passOf_33 ?_
      refine V_getR d_gd_passOf_34 fl_gd_26 (is_gd hh) (r_gd_owns hh) ?_
      refine V_iload_1 d_gd_passOf_37 ?_
      refine V_aald d_gd_passOf_38 (is_gd_owns hh) (by omega) (by omega) (r_gd_ownsrow hh (by omega)) ?_
      refine V_iload_5 d_gd_passOf_39 ?_
      refine V_iald d_gd_passOf_41 (is_gd_owns_row hh (by omega)) (by omega) (by omega) ?_
      rw [ow]
      refine V_aload_3 d_gd_passOf_42 ?_
      refine V_iload_5 d_gd_passOf_43 ?_
      refine V_iald d_gd_passOf_45 (is_gd_looks_row hh (by omega)) (by omega) (by omega) ?_
      rw [lo]
      refine V_icmp_eq 103 d_gd_passOf_46 (by decide) (by omega) (by omega) (fun c46 => ?_) (fun c46 => ?_)
      · skip
        rw [if_neg (fun hc => hc.1 c46)] at hr
        refine V_iinc_5 d_gd_passOf_103 rfl ?_
        refine V_goto 22 d_gd_passOf_106 (by decide) ?_
        exact ih _ _ _ (by omega) (by omega) hv hr
      · skip
        refine V_aload_0 d_gd_passOf_49 ?_
        refine V_getR d_gd_passOf_50 fl_gd_29 (is_gd hh) (r_gd_fakes hh) ?_
        refine V_iload_1 d_gd_passOf_53 ?_
        refine V_aald d_gd_passOf_54 (is_gd_fakes hh) (by omega) (by omega) (r_gd_fakesrow hh (by omega)) ?_
        refine V_iload_5 d_gd_passOf_55 ?_
        refine V_iald d_gd_passOf_57 (is_gd_fakes_row hh (by omega)) (by omega) (by omega) ?_
        rw [fa]
        refine V_if_ne 103 d_gd_passOf_58 (by decide) (by omega) (fun c58 => ?_) (fun c58 => ?_)
        · skip
          rw [if_neg (fun hc => c58 hc.2)] at hr
          refine V_iinc_5 d_gd_passOf_103 rfl ?_
          refine V_goto 22 d_gd_passOf_106 (by decide) ?_
          exact ih _ _ _ (by omega) (by omega) hv hr
        · skip
          rw [if_pos ⟨c46, by omega⟩] at hr
          refine V_aload_0 d_gd_passOf_61 ?_
          refine V_getR d_gd_passOf_62 fl_gd_20 (is_gd hh) (r_gd_shows hh) ?_
          refine V_iload_5 d_gd_passOf_65 ?_
          refine V_aald d_gd_passOf_67 (is_gd_shows hh) (by omega) (by omega) (r_gd_showsrow hh (by omega)) ?_
          refine V_aload_0 d_gd_passOf_68 ?_
          refine V_getR d_gd_passOf_69 fl_gd_38 (is_gd hh) (r_gd_sightings hh) ?_
          refine V_iload_2 d_gd_passOf_72 ?_
          refine V_aald d_gd_passOf_73 (is_gd_sightings hh) (by omega) (by omega) (r_gd_sightingsrow hh (by omega)) ?_
          refine V_iconst 4 d_gd_passOf_74 ?_
          refine V_iald d_gd_passOf_75 (is_gd_sightings_row hh (by omega)) (by omega) (by omega) ?_
          rw [s4]
          refine V_iald d_gd_passOf_76 (is_gd_shows_row hh (by omega)) (by omega) (by omega) ?_
          rw [sw]
          refine V_aload_0 d_gd_passOf_77 ?_
          refine V_getR d_gd_passOf_78 fl_gd_38 (is_gd hh) (r_gd_sightings hh) ?_
          refine V_iload_2 d_gd_passOf_81 ?_
          refine V_aald d_gd_passOf_82 (is_gd_sightings hh) (by omega) (by omega) (r_gd_sightingsrow hh (by omega)) ?_
          refine V_iconst 3 d_gd_passOf_83 ?_
          refine V_iald d_gd_passOf_84 (is_gd_sightings_row hh (by omega)) (by omega) (by omega) ?_
          rw [s3]
          refine V_imul d_gd_passOf_85 ?_
          refine V_istore_6 d_gd_passOf_86 rfl ?_
          refine V_iload_4 d_gd_passOf_88 ?_
          refine V_sipush 10000 d_gd_passOf_90 (by decide) ?_
          refine V_iload_6 d_gd_passOf_93 ?_
          refine V_isub d_gd_passOf_95 ?_
          refine V_imul d_gd_passOf_96 ?_
          refine V_sipush 10000 d_gd_passOf_97 (by decide) ?_
          refine V_idiv d_gd_passOf_100 (by omega) (by omega) ?_
          refine V_istore_4 d_gd_passOf_101 rfl ?_
          refine V_iinc_5 d_gd_passOf_103 rfl ?_
          refine V_goto 22 d_gd_passOf_106 (by decide) ?_
          exact ih _ _ _ (by omega) (by omega) hst.2 hr
  refine V_aload_0 d_gd_passOf_0 ?_
  refine V_getR d_gd_passOf_1 fl_gd_23 (is_gd hh) (r_gd_looks hh) ?_
  refine V_aload_0 d_gd_passOf_4 ?_
  refine V_getR d_gd_passOf_5 fl_gd_38 (is_gd hh) (r_gd_sightings hh) ?_
  refine V_iload_2 d_gd_passOf_8 ?_
  refine V_aald d_gd_passOf_9 (is_gd_sightings hh) (by omega) (by omega) (r_gd_sightingsrow hh (by omega)) ?_
  refine V_iconst 0 d_gd_passOf_10 ?_
  refine V_iald d_gd_passOf_11 (is_gd_sightings_row hh (by omega)) (by omega) (by omega) ?_
  rw [s0]
  refine V_aald d_gd_passOf_12 (is_gd_looks hh) (by omega) (by omega) (r_gd_looksrow hh (by omega)) ?_
  refine V_astore_3 d_gd_passOf_13 rfl ?_
  refine V_sipush 1000 d_gd_passOf_14 (by decide) ?_
  refine V_istore_4 d_gd_passOf_17 rfl ?_
  refine V_iconst 0 d_gd_passOf_19 ?_
  refine V_istore_5 d_gd_passOf_20 rfl ?_
  exact loop (S 1 0).toNat _ _ _ (by decide) (by omega) (by decide) rfl
theorem ok_unlike (hh : q_G h) (hG : gv h f S) (hY : pY S) {i s : Int} (hi : 0 ≤ i ∧ i < S 1 2) (hs : 0 ≤ s ∧ s < S 1 4) : OkI D m_gd_unlikeTraits [vr D h, vi i, vi s] (Zg g h) f (fun x f' => x = unl S i s ∧ f' = f) := by
  have hg2 := q_G51 hh
  have hW := hY.1
  have b0 := hW.1
  have b1 := hW.2.1
  have b2 := hW.2.2.1
  have b4 := hW.2.2.2.2.1
  have c0 := hG.ct 0
  have hx := hY.2.1 s hs.1 hs.2
  have s0 := hG.sg (s := s) (by omega) 0
  refine OkI_of (L0 := [vr D h, vi i, vi s, vu, vu, vu]) mi_gd_unlikeTraits rfl rfl (Nat.le_of_ble_eq_true rfl) (fun C hR => ?_)
  have loop : ∀ (m : Nat) (t v : Int), 0 ≤ t → t + m = S 1 0 → unlF S i s m t v = unl S i s → V D C m_gd_unlikeTraits 20 [vr D h, vi i, vi s, vr D (h + 15 + S (46 + s) 0), vi v, vi t] [] (Zg g h) f := by
    intro m
    induction m with
    | zero =>
      intro t v t0 tm hr
      refine V_iload_5 d_gd_unlikeTraits_20 ?_
      refine V_aload_0 d_gd_unlikeTraits_22 ?_
      refine V_getR d_gd_unlikeTraits_23 fl_gd_9 (is_gd hh) (r_gd_counts hh) ?_
      refine V_iconst 0 d_gd_unlikeTraits_26 ?_
      refine V_iald d_gd_unlikeTraits_27 (is_gd_counts hh) (by omega) (by omega) ?_
      rw [c0]
      refine V_icmp_ge 56 d_gd_unlikeTraits_28 (by decide) (by omega) (by omega) (fun c28 => ?_) (fun c28 => by omega)
      refine V_iload_4 d_gd_unlikeTraits_56 ?_
      refine V_ireturn d_gd_unlikeTraits_58 (hR _ _ ?_)
      exact ⟨hr, rfl⟩
    | succ m ih =>
      intro t v t0 tm hr
      have lo := hG.lo (s := S (46 + s) 0) (by omega) t
      have ow := hG.ow (s := i) (by omega) t
      have rl := hY.2.2.2.1 (S (46 + s) 0) t (by omega) (by omega) t0 (by omega)
      have rs := (hY.2.2.1 i hi.1 hi.2).2 t t0 (by omega)
      have hr : unlF S i s m (t + 1) (if S (24 + i) t = S (15 + S (46 + s) 0) t then v else v + 1) = unl S i s := hr
      refine V_iload_5 d_gd_unlikeTraits_20 ?_
      refine V_aload_0 d_gd_unlikeTraits_22 ?_
      refine V_getR d_gd_unlikeTraits_23 fl_gd_9 (is_gd hh) (r_gd_counts hh) ?_
      refine V_iconst 0 d_gd_unlikeTraits_26 ?_
      refine V_iald d_gd_unlikeTraits_27 (is_gd_counts hh) (by omega) (by omega) ?_
      rw [c0]
      refine V_icmp_ge 56 d_gd_unlikeTraits_28 (by decide) (by omega) (by omega) (fun c28 => by omega) (fun c28 => ?_)
      refine V_aload_0 d_gd_unlikeTraits_31 ?_
      refine V_getR d_gd_unlikeTraits_32 fl_gd_26 (is_gd hh) (r_gd_owns hh) ?_
      refine V_iload_1 d_gd_unlikeTraits_35 ?_
      refine V_aald d_gd_unlikeTraits_36 (is_gd_owns hh) (by omega) (by omega) (r_gd_ownsrow hh (by omega)) ?_
      refine V_iload_5 d_gd_unlikeTraits_37 ?_
      refine V_iald d_gd_unlikeTraits_39 (is_gd_owns_row hh (by omega)) (by omega) (by omega) ?_
      rw [ow]
      refine V_aload_3 d_gd_unlikeTraits_40 ?_
      refine V_iload_5 d_gd_unlikeTraits_41 ?_
      refine V_iald d_gd_unlikeTraits_43 (is_gd_looks_row hh (by omega)) (by omega) (by omega) ?_
      rw [lo]
      refine V_icmp_eq 50 d_gd_unlikeTraits_44 (by decide) (by omega) (by omega) (fun c44 => ?_) (fun c44 => ?_)
      · skip
        rw [if_pos c44] at hr
        refine V_iinc_5 d_gd_unlikeTraits_50 rfl ?_
        refine V_goto 20 d_gd_unlikeTraits_53 (by decide) ?_
        exact ih _ _ (by omega) (by omega) hr
      · skip
        rw [if_neg c44] at hr
        refine V_iinc_4 d_gd_unlikeTraits_47 rfl ?_
        refine V_iinc_5 d_gd_unlikeTraits_50 rfl ?_
        refine V_goto 20 d_gd_unlikeTraits_53 (by decide) ?_
        exact ih _ _ (by omega) (by omega) hr
  refine V_aload_0 d_gd_unlikeTraits_0 ?_
  refine V_getR d_gd_unlikeTraits_1 fl_gd_23 (is_gd hh) (r_gd_looks hh) ?_
  refine V_aload_0 d_gd_unlikeTraits_4 ?_
  refine V_getR d_gd_unlikeTraits_5 fl_gd_38 (is_gd hh) (r_gd_sightings hh) ?_
  refine V_iload_2 d_gd_unlikeTraits_8 ?_
  refine V_aald d_gd_unlikeTraits_9 (is_gd_sightings hh) (by omega) (by omega) (r_gd_sightingsrow hh (by omega)) ?_
  refine V_iconst 0 d_gd_unlikeTraits_10 ?_
  refine V_iald d_gd_unlikeTraits_11 (is_gd_sightings_row hh (by omega)) (by omega) (by omega) ?_
  rw [s0]
  refine V_aald d_gd_unlikeTraits_12 (is_gd_looks hh) (by omega) (by omega) (r_gd_looksrow hh (by omega)) ?_
  refine V_astore_3 d_gd_unlikeTraits_13 rfl ?_
  refine V_iconst 0 d_gd_unlikeTraits_14 ?_
  refine V_istore_4 d_gd_unlikeTraits_15 rfl ?_
  refine V_iconst 0 d_gd_unlikeTraits_17 ?_
  refine V_istore_5 d_gd_unlikeTraits_18 rfl ?_
  exact loop (S 1 0).toNat _ _ (by decide) (by omega) rfl
/-- whether one who is in a place at an hour can be at a sighting -/
def nr (S : q_F) (hm : Int → Int → Int) (p t j : Int) : Bool := decide (hm p (S (46 + j) 1) ≤ iabs (t - S (46 + j) 2))
theorem ok_nearS (hh : q_G h) (hG : gv h f S) (hY : pY S) {hm : Int → Int → Int} (hf : ∀ a b, 0 ≤ a → a < S 1 3 → 0 ≤ b → b < S 1 3 → f (h + 37 + a) b = hm a b ∧ (0 ≤ hm a b ∧ hm a b ≤ 1000)) {p t : Int} (hp : 0 ≤ p ∧ p < S 1 3) (ht : 0 ≤ t ∧ t ≤ 99) : OkI D m_gd_near [vr D h, vi p, vi t] (Zg g h) f (fun x f' => x = mB (fun j => decide (j < S 1 4) && nr S hm p t j) ∧ f' = f) := by
  have hg2 := q_G51 hh
  have hW := hY.1
  have b3 := hW.2.2.2.1
  have b4 := hW.2.2.2.2.1
  have e4 := hG.ct 4
  refine OkI_of (L0 := [vr D h, vi p, vi t, vu, vu, vu]) mi_gd_near rfl rfl (Nat.le_of_ble_eq_true rfl) (fun C hR => ?_)
  have loop : ∀ (m : Nat) (i b : Int) (a5 : Value), i + m = S 1 4 → 0 ≤ i → b = mB (fun j => decide (j < i) && nr S hm p t j) → V D C m_gd_near 5 [vr D h, vi p, vi t, vi b, vi i, a5] [] (Zg g h) f := by
    intro m
    induction m with
    | zero =>
      intro i b a5 im h0 hb
      refine V_iload_4 d_gd_near_5 ?_
      refine V_aload_0 d_gd_near_7 ?_
      refine V_getR d_gd_near_8 fl_gd_9 (is_gd hh) (r_gd_counts hh) ?_
      refine V_iconst 4 d_gd_near_11 ?_
      refine V_iald d_gd_near_12 (is_gd_counts hh) (by omega) (by omega) ?_
      rw [e4]
      refine V_icmp_ge 66 d_gd_near_13 (by decide) (by omega) (by omega) (fun c13 => ?_) (fun c13 => by omega)
      refine V_iload_3 d_gd_near_66 ?_
      refine V_ireturn d_gd_near_67 (hR _ _ ?_)
      exact ⟨by rw [hb, show i = S 1 4 by omega], rfl⟩
    | succ m ih =>
      intro i b a5 im h0 hb
      have hx := hY.2.1 i h0 (by omega)
      have s1 := hG.sg (s := i) (by omega) 1
      have s2 := hG.sg (s := i) (by omega) 2
      have hf1 := hf p (S (46 + i) 1) hp.1 hp.2 hx.2.1.1 hx.2.1.2
      refine V_iload_4 d_gd_near_5 ?_
      refine V_aload_0 d_gd_near_7 ?_
      refine V_getR d_gd_near_8 fl_gd_9 (is_gd hh) (r_gd_counts hh) ?_
      refine V_iconst 4 d_gd_near_11 ?_
      refine V_iald d_gd_near_12 (is_gd_counts hh) (by omega) (by omega) ?_
      rw [e4]
      refine V_icmp_ge 66 d_gd_near_13 (by decide) (by omega) (by omega) (fun c13 => by omega) (fun c13 => ?_)
      refine V_iload_2 d_gd_near_16 ?_
      refine V_aload_0 d_gd_near_17 ?_
      refine V_getR d_gd_near_18 fl_gd_38 (is_gd hh) (r_gd_sightings hh) ?_
      refine V_iload_4 d_gd_near_21 ?_
      refine V_aald d_gd_near_23 (is_gd_sightings hh) (by omega) (by omega) (r_gd_sightingsrow hh (by omega)) ?_
      refine V_iconst 2 d_gd_near_24 ?_
      refine V_iald d_gd_near_25 (is_gd_sightings_row hh (by omega)) (by omega) (by omega) ?_
      rw [s2]
      refine V_isub d_gd_near_26 ?_
      refine V_csI1 d_gd_near_27 ml_gd_88 ms_jm_abs (by decide) (Nat.le_of_ble_eq_true rfl) (ok_abs (by omega)) ?_
      rintro _ f2 ⟨rfl, e2⟩
      rw [e2]; clear e2 f2
      refine V_istore_5 d_gd_near_30 rfl ?_
      refine V_iload_5 d_gd_near_32 ?_
      refine V_aload_0 d_gd_near_34 ?_
      refine V_getR d_gd_near_35 fl_gd_35 (is_gd hh) (r_gd_hours hh) ?_
      refine V_iload_1 d_gd_near_38 ?_
      refine V_aald d_gd_near_39 (is_gd_hours hh) (by omega) (by omega) (r_gd_hoursrow hh (by omega)) ?_
      refine V_aload_0 d_gd_near_40 ?_
      refine V_getR d_gd_near_41 fl_gd_38 (is_gd hh) (r_gd_sightings hh) ?_
      refine V_iload_4 d_gd_near_44 ?_
      refine V_aald d_gd_near_46 (is_gd_sightings hh) (by omega) (by omega) (r_gd_sightingsrow hh (by omega)) ?_
      refine V_iconst 1 d_gd_near_47 ?_
      refine V_iald d_gd_near_48 (is_gd_sightings_row hh (by omega)) (by omega) (by omega) ?_
      rw [s1]
      refine V_iald d_gd_near_49 (is_gd_hours_row hh (by omega)) (by omega) (by omega) ?_
      rw [hf1.1]
      refine V_icmp_lt 60 d_gd_near_50 (by decide) (by split <;> omega) (by omega) (fun c50 => ?_) (fun c50 => ?_)
      · skip
        refine V_iinc_4 d_gd_near_60 rfl ?_
        refine V_goto 5 d_gd_near_63 (by decide) ?_
        refine ih _ _ _ (by omega) (by omega) ?_
        rw [mB_step _ (by omega), hb]
        have : nr S hm p t i = false := by unfold nr iabs; simp only [decide_eq_false_iff_not]; omega
        rw [this]; rfl
      · skip
        refine V_iload_3 d_gd_near_53 ?_
        refine V_iconst 1 d_gd_near_54 ?_
        refine V_iload_4 d_gd_near_55 ?_
        refine V_ishl d_gd_near_57 ?_
        refine V_ior d_gd_near_58 ?_
        refine V_istore_3 d_gd_near_59 rfl ?_
        refine V_iinc_4 d_gd_near_60 rfl ?_
        refine V_goto 5 d_gd_near_63 (by decide) ?_
        refine ih _ _ _ (by omega) (by omega) ?_
        rw [mB_step _ (by omega), hb]
        have : nr S hm p t i = true := by unfold nr iabs; simp only [decide_eq_true_eq]; omega
        rw [this]; rfl
  refine V_iconst 0 d_gd_near_0 ?_
  refine V_istore_3 d_gd_near_1 rfl ?_
  refine V_iconst 0 d_gd_near_2 ?_
  refine V_istore_4 d_gd_near_3 rfl ?_
  exact loop (S 1 4).toNat _ _ _ (by omega) (by decide) (mB_lt0 _).symm
end GSP
