/-! THE CLASS'S guild() -/
def rdS (S : q_F) : Int → Int → Int := fun a b => S (37 + a) b
/-- a text with a fault -/
def A_gbad (A : q_As) (e : Int × Int) : q_As := fun n i k => match n with
  | 13 => if k = 1 then e.1 else if k = 2 then e.2 else if k = 3 then 0 else A 13 i k
  | n => A n i k
/-- a text without one -/
def A_guild (A : q_As) (S : q_F) (L : List Int) (B : Int → Int) : q_As := fun n i k => match n with
  | 0 => if i = 6 then S 0 14 else S 1 i
  | 1 => S (3 + i / 8) (i % 8) / 32 ^ k.toNat % 32
  | 2 => S (8 + i) k
  | 3 => S (15 + i) k
  | 4 => S (24 + i) k
  | 5 => S (30 + i) k
  | 6 => fly (rdS S) (S 1 3).toNat i k
  | 7 => S (46 + i) k
  | 8 => pss S i k
  | 9 => prc S L i k
  | 10 => S 35 i
  | 11 => -1
  | 13 => if k = 0 then 0 else if k = 1 then 0 else if k = 2 then -1 else if k = 3 then 0 else A 13 i k
  | 16 => B i
  | n => A n i k
section RFS2
variable {D : q_D} {C : q_C} {M : q_M} {pc N cs ss : Nat} {L st : List Value} {rf rf' : Int → Int → Int} {f : q_F}
theorem V_rf2 (hrf : ∀ j k : Int, 0 ≤ j → (j = 3 ∧ 3 ≤ k) ∨ (j = 0 ∧ 10 ≤ k) ∨ rf j k = rf' j k) (k : V D C M pc L st (N, rf', cs, ss) f) : V D C M pc L st (N, rf, cs, ss) f := by
  intro hC H ls locs hW hL hlo
  refine k hC H ls locs ?_ hL hlo
  obtain ⟨h1, h2, h3⟩ := hW
  refine ⟨h1, h2, fun j hj => ⟨fun c hc => ?_, fun hk => ?_⟩⟩
  · refine t_OB.to ((h3 j hj).1 c hc) (fun i hi => ?_)
    unfold q_sv
    have : rf (j : Int) i = rf' j i := by
      rcases hrf j i (Int.natCast_nonneg _) with ⟨e, e2⟩ | ⟨e, e2⟩ | e
      · have ej : j = 3 := by omega
        subst ej
        have : c = (R_gr, F_gr, 3) := by
          have h9 : q_cl[q_k ((3 : Nat) : Int)]? = some (R_gr, F_gr, 3) := rfl
          rw [h9] at hc; cases hc; rfl
        rw [this] at hi
        have hi : i < 3 := hi
        omega
      · have ej : j = 0 := by omega
        subst ej
        have : c = (R_hs, F_hs, 10) := by
          have h9 : q_cl[q_k ((0 : Nat) : Int)]? = some (R_hs, F_hs, 10) := rfl
          rw [h9] at hc; cases hc; rfl
        rw [this] at hi
        have hi : i < 10 := hi
        omega
      · exact e
    show q_val D _ _ (rf _ _) = q_val D _ _ (rf' _ _)
    rw [this]
  · rw [(h3 j hj).2 hk]
    refine congrArg some (congrArg (arrV _ _) (funext fun i => ?_))
    unfold q_sv
    have : rf (j : Int) i = rf' j i := by
      rcases hrf j i (Int.natCast_nonneg _) with ⟨e, e2⟩ | ⟨e, e2⟩ | e
      · have ej : j = 3 := by omega
        subst ej
        have h9 : q_k ((3 : Nat) : Int) = 3 := rfl
        omega
      · have ej : j = 0 := by omega
        subst ej
        have h9 : q_k ((0 : Nat) : Int) = 7 := rfl
        omega
      · exact e
    show q_val D _ _ (rf _ _) = q_val D _ _ (rf' _ _)
    rw [this]
end RFS2
section HSG
variable {D : q_D} {f f' f'' S : q_F} {A : q_As} {g h : Int} {L : List Int}
theorem pX.y (hX : pX S L) (hW : pW S) : pY S := ⟨hW, hX.2.1, hX.2.2.1, hX.2.2.2.1, hX.2.2.2.2.1⟩
theorem pX.ro (hX : pX S L) (hW : pW S) : roK (rdS S) := fun a b a0 a1 b0 b1 => ⟨hW.2.2.2.2.2.2.2.2 a b a0 a1 b0 b1, (hX.1 a b a0 a1 b0 b1).1, (hX.1 a b a0 a1 b0 b1).2.1⟩
theorem ok_grsettle (hh : q_G h) (hE : cE h f S) (hc : cdS f L) (hW : pW S) (hX : pX S L) (hl : (L.length : Int) ≤ 1600) : OkV D m_gr_settle [vr D 3] (Zg g h) f (fun f' => gv h f' S ∧ (∀ a b, 0 ≤ a → a < S 1 3 → 0 ≤ b → b < S 1 3 → f' (h + 37 + a) b = fly (rdS S) (S 1 3).toNat a b) ∧ srt (fun s => S (46 + s) 2) (fun k => f' (h + 83) k) (S 1 4) ∧ (∀ s, 0 ≤ s → s < S 1 4 → f' (h + 82) s = mB (fun j => decide (j < S 1 4) && nr S (fly (rdS S) (S 1 3).toNat) (S (46 + s) 1) (S (46 + s) 2) j)) ∧ (∀ i s, 0 ≤ i → i < S 1 2 → 0 ≤ s → s < S 1 4 → f' (h + 71 + i) s = pss S i s) ∧ (∀ i s, 0 ≤ i → i < S 1 2 → 0 ≤ s → s < S 1 4 → f' (h + 77 + i) s = prc S L i s) ∧ ∀ j k, ¬ (h + 37 ≤ j ∧ j < h + 84) → ¬ (j = 8 ∨ j = 9) → ¬ (j = 4 ∧ k = 7) → f' j k = f j k) := by
  have hg2 := q_G51 hh
  have hY := hX.y hW
  have b2 := hW.2.2.1
  have b3 := hW.2.2.2.1
  have hG : gv h f S := fun j k a b => hE.1 j k a (by omega)
  have hro : ∀ a b, 0 ≤ a → a < 8 → 0 ≤ b → b < 8 → f (h + 37 + a) b = rdS S a b := fun a b a0 a1 _ _ => by
    have := hE.1 (37 + a) b (by omega) (by omega); rw [show h + (37 + a) = h + 37 + a by omega] at this; exact this
  refine OkV_of (L0 := [vr D 3]) mi_gr_settle rfl rfl (Nat.le_of_ble_eq_true rfl) (fun C hR => ?_)
  refine V_aload_0 d_gr_settle_0 ?_
  refine V_getR d_gr_settle_1 fl_gr_24 is_gr (r_gr_into hh) ?_
  refine V_cvV0 d_gr_settle_4 ml_gr_62 mv_gd_settle (by decide) (Nat.le_of_ble_eq_true rfl) (is_gd hh) (ok_settle hh hG hY (hX.ro hW) hro) ?_
  rintro F1 ⟨g1, g2, g3, g4, g5, g6⟩
  refine V_aload_0 d_gr_settle_7 ?_
  refine V_getR d_gr_settle_8 fl_gr_20 is_gr r_gr_rules ?_
  refine V_aload_0 d_gr_settle_11 ?_
  refine V_getR d_gr_settle_12 fl_gr_24 is_gr (r_gr_into hh) ?_
  refine V_cvV1 d_gr_settle_15 ml_gr_65 mv_ru_setPrices (by decide) (Nat.le_of_ble_eq_true rfl) is_ru (ok_setPrices hh g1 hY hX.2.2.2.2.2.2.2 hl (fun k hk => by rw [g6 _ _ (by omega)]; exact hc.2 k hk) (fun k => by rw [g6 _ _ (by omega)]; exact hE.2.1 k) (fun k => by rw [g6 _ _ (by omega)]; exact hE.2.2 k) g5) ?_
  rintro F2 ⟨p1, p2⟩
  refine V_return d_gr_settle_18 (hR _ ?_)
  refine ⟨g1.fr (fun j k _ h2 h3 => p2 j k (by omega) (by omega) (by omega)), fun a b a0 a1 b0 b1 => ?_, ?_, fun s s0 s1 => ?_, fun i s i0 i1 s0 s1 => ?_, p1, fun j k a b c => ?_⟩
  · rw [p2 _ _ (by omega) (by omega) (by omega)]; exact g2 a b a0 a1 b0 b1
  · have e : (fun k => F2 (h + 83) k) = fun k => F1 (h + 83) k := by funext k; exact p2 _ _ (by omega) (by omega) (by omega)
    rw [e]; exact g3
  · rw [p2 _ _ (by omega) (by omega) (by omega)]; exact g4 s s0 s1
  · rw [p2 _ _ (by omega) (by omega) (by omega)]; exact g5 i s i0 i1 s0 s1
  · rw [p2 j k (by omega) b c]; exact g6 j k a
theorem RF_swap {g : Int} (h : Int) (j k : Int) (hj0 : 0 ≤ j) : (j = 3 ∧ 3 ≤ k) ∨ (j = 0 ∧ 10 ≤ k) ∨ q_up (q_up (RF g h) 0 8 (186 - g)) 0 9 g j k = RF (186 - g) h j k := by
  by_cases e9 : j = 0 ∧ k = 9
  · right; right; rw [e9.1, e9.2, q_up_eq]; show g = 186 - (186 - g); omega
  · by_cases e8 : j = 0 ∧ k = 8
    · right; right; rw [e8.1, e8.2, q_up_ne (by omega), q_up_eq]; rfl
    · by_cases hj : j = 0
      · by_cases hk : 10 ≤ k
        · exact Or.inr (Or.inl ⟨hj, hk⟩)
        · right; right
          rw [q_up_ne (by omega), q_up_ne (by omega), hj]
          unfold RF
          have hk2 : k < 8 := by omega
          simp [hk2]
      · right; right
        rw [q_up_ne (by omega), q_up_ne (by omega)]
        unfold RF
        repeat' split
        all_goals first | rfl | omega
theorem q_G2 (hg : q_G g) : q_G (186 - g) := by rcases hg with rfl | rfl <;> unfold q_G <;> omega
theorem Cst.tW (hS : Cst g f A) (hF : Wf A) : tW (fun k => A 14 k 0) (A 13 0 3) := ⟨hF.2.2.1, fun k a b => hF.2.2.2.1 k a b⟩
theorem gEq_bad (A : q_As) (e : Int × Int) : gEq A (A_gbad A e) := ⟨rfl, rfl, rfl, rfl, rfl, rfl, rfl, rfl, rfl, rfl, rfl, rfl⟩
theorem bad13 (A : q_As) (e : Int × Int) {k : Int} (h : ¬ k = 1 ∧ ¬ k = 2 ∧ ¬ k = 3) (i : Int) : A_gbad A e 13 i k = A 13 i k := by
  show (if k = 1 then e.1 else if k = 2 then e.2 else if k = 3 then 0 else A 13 i k) = _
  rw [if_neg h.1, if_neg h.2.1, if_neg h.2.2]
theorem Cst.gbad (hS : Cst g f A) (hF : Wf A) (e : Int × Int) (hf : ∀ j k, ¬ j = 1 → ¬ (186 - g ≤ j ∧ j < 186 - g + 84) → ¬ (4 ≤ j ∧ j ≤ 7) → f' j k = f j k) (h1 : f' 1 1 = 0) (h3 : f' 1 3 = e.1) (h4 : f' 1 4 = e.2) : Cst g f' (A_gbad A e) := by
  obtain ⟨hg, hG, hH, hT⟩ := hS
  have gg : ∀ j k, g ≤ j → j < g + 84 → f' j k = f j k := fun j k a b => by
    rcases hg with rfl | rfl <;> exact hf _ _ (by omega) (by omega) (by omega)
  have b51 := q_G51 (q_G2 hg)
  obtain ⟨t1, t2, t3, t4, t5, t6, t7⟩ := hT
  refine ⟨hg, hG.mono (gEq_bad A e) hF.1 gg, hH.mono rfl rfl rfl (bad13 A e (by decide) 0) (fun j k a b => hf j k (by omega) (by omega) (by omega)), h1, fun k k0 k1 => ?_, h3, h4, ?_, ?_, fun k k0 k1 => ?_⟩
  · have k1 : k < 0 := k1
    omega
  · rw [bad13 A e (by decide), hf _ _ (by omega) (by omega) (by omega)]; exact t5
  · rw [bad13 A e (by decide), hf _ _ (by omega) (by omega) (by omega)]; exact t6
  · rw [bad13 A e (by decide)] at k1
    rw [hf _ _ (by omega) (by omega) (by omega)]; exact t7 k k0 k1
theorem W_gbad (hF : Wf A) {e : Int × Int} (h1 : 0 ≤ e.1 ∧ e.1 ≤ 5) (h2 : -1 ≤ e.2 ∧ e.2 ≤ 1600) : Wf (A_gbad A e) := by
  obtain ⟨hg, hh, ht⟩ := hF
  refine ⟨hg.mono (gEq_bad A e), hh.mono (gEq_bad A e) rfl rfl (bad13 A e (by decide) 0), ?_⟩
  obtain ⟨t1, t2, t3, t4, t5, t6, t7⟩ := ht
  refine ⟨by show (0 : Int) ≤ 0 ∧ (0 : Int) ≤ 1600; decide, fun k k0 k1 => ?_, h1, h2, ?_, ?_, fun k k0 k1 => ?_⟩
  · have k1 : k < 0 := k1
    omega
  · rw [bad13 A e (by decide)]; exact t5
  · rw [bad13 A e (by decide)]; exact t6
  · rw [bad13 A e (by decide)] at k1; exact t7 k k0 k1
theorem gld13 (A : q_As) (S : q_F) (L : List Int) (B : Int → Int) {k : Int} (h : ¬ k = 0 ∧ ¬ k = 1 ∧ ¬ k = 2 ∧ ¬ k = 3) (i : Int) : A_guild A S L B 13 i k = A 13 i k := by
  show (if k = 0 then 0 else if k = 1 then 0 else if k = 2 then -1 else if k = 3 then 0 else A 13 i k) = _
  rw [if_neg h.1, if_neg h.2.1, if_neg h.2.2.1, if_neg h.2.2.2]
theorem gld0 (A : q_As) (S : q_F) (L : List Int) (B : Int → Int) {i : Int} (h : ¬ i = 6) (k : Int) : A_guild A S L B 0 i k = S 1 i := if_neg h
theorem can_gld (A : q_As) (S : q_F) (L : List Int) (B : Int → Int) (s t : Int) : can (A_guild A S L B) s t = nr S (fly (rdS S) (S 1 3).toNat) (S (46 + s) 1) (S (46 + s) 2) t := rfl
theorem Cst.guild {B : Int → Int} (hh : q_G h) (hS : Cst g f A) (hW : pW S) (hX : pX S L) (h1 : gv h f' S) (h2 : ∀ a b, 0 ≤ a → a < S 1 3 → 0 ≤ b → b < S 1 3 → f' (h + 37 + a) b = fly (rdS S) (S 1 3).toNat a b) (h3 : ∀ k, f' (h + 83) k = B k) (h4 : ∀ s, 0 ≤ s → s < S 1 4 → f' (h + 82) s = mB (fun j => decide (j < S 1 4) && nr S (fly (rdS S) (S 1 3).toNat) (S (46 + s) 1) (S (46 + s) 2) j)) (h5 : ∀ i s, 0 ≤ i → i < S 1 2 → 0 ≤ s → s < S 1 4 → f' (h + 71 + i) s = pss S i s) (h6 : ∀ i s, 0 ≤ i → i < S 1 2 → 0 ≤ s → s < S 1 4 → f' (h + 77 + i) s = prc S L i s) (hH : f' 10 3 = 0 ∧ f' 10 2 = f 10 2 ∧ ∀ s, 0 ≤ s → s < 24 → f' 11 s = -1) (hT : f' 1 1 = 0 ∧ f' 1 3 = 0 ∧ f' 1 4 = -1 ∧ f' 0 7 = f 0 7 ∧ f' 0 6 = f 0 6 ∧ ∀ k, f' 50 k = f 50 k) : Cst h f' (A_guild A S L B) := by
  obtain ⟨hg, -, hH0, hT0⟩ := hS
  have b0 := hW.1
  have b1 := hW.2.1
  have b2 := hW.2.2.1
  have b3 := hW.2.2.2.1
  have b4 := hW.2.2.2.2.1
  have n0 : A_guild A S L B 0 0 0 = S 1 0 := gld0 A S L B (by decide) 0
  have n1 : A_guild A S L B 0 1 0 = S 1 1 := gld0 A S L B (by decide) 0
  have n2 : A_guild A S L B 0 2 0 = S 1 2 := gld0 A S L B (by decide) 0
  have n3 : A_guild A S L B 0 3 0 = S 1 3 := gld0 A S L B (by decide) 0
  have n4 : A_guild A S L B 0 4 0 = S 1 4 := gld0 A S L B (by decide) 0
  refine ⟨hh, ⟨fun k k0 k1 => ?_, ?_, fun i w k i0 i1 w0 w1 k0 k1 => ?_, fun t w t0 t1 w0 w1 => ?_, fun p t p0 p1 t0 t1 => ?_, fun p t p0 p1 t0 t1 => ?_, fun p p0 p1 => ?_, fun a b a0 a1 b0 b1 => ?_, fun s k s0 s1 k0 k1 => ?_, fun i s i0 i1 s0 s1 => ?_, fun s s0 s1 => ?_, fun i i0 i1 => h3 i⟩, ⟨fun s s0 s1 => ?_, hH.1, ?_, fun n s n0 n1 => ?_⟩, ⟨hT.1, fun k k0 k1 => ?_, hT.2.1, hT.2.2.1, ?_, ?_, fun k k0 k1 => ?_⟩⟩
  · rw [gld0 A S L B (by omega)]; exact h1.ct k
  · have := h1 0 14 (by decide) (by decide); rw [Int.add_zero] at this; exact this
  · rw [gld0 A S L B (by omega)] at w1
    have hw8 := hW.cn (k := i) ⟨i0, i1⟩
    have e1 : f' (h + 3 + i) w = S (3 + i) w := by
      have := h1 (3 + i) w (by omega) (by omega); rw [show h + (3 + i) = h + 3 + i by omega] at this; exact this
    have e2 : A_guild A S L B 1 (8 * i + w) k = S (3 + i) w / 32 ^ k.toNat % 32 := by
      show S (3 + (8 * i + w) / 8) ((8 * i + w) % 8) / 32 ^ k.toNat % 32 = _
      rw [show (8 * i + w) / 8 = i by omega, show (8 * i + w) % 8 = w by omega]
    rw [e1, e2]
    exact ⟨hW.2.2.2.2.2.2.2.1 i w i0 i1 w0 w1, rfl⟩
  · rw [n0] at t1; exact h1.sw ⟨t0, by omega⟩ w
  · rw [n1] at p1; exact h1.lo ⟨p0, by omega⟩ t
  · rw [n2] at p1; exact ⟨h1.ow ⟨p0, by omega⟩ t, h1.fa ⟨p0, by omega⟩ t⟩
  · exact h1.fe p
  · rw [n3] at a1 b1; exact h2 a b a0 a1 b0 b1
  · rw [n4] at s1; exact h1.sg ⟨s0, by omega⟩ k
  · rw [n2] at i1; rw [n4] at s1; exact ⟨h5 i s i0 i1 s0 s1, h6 i s i0 i1 s0 s1⟩
  · rw [n4] at s1 ⊢; exact h4 s s0 s1
  · rw [n4] at s1; exact hH.2.2 s s0 (by omega)
  · rw [hH.2.1]; exact hH0.2.2.1
  · have n1 : n < 0 := n1
    omega
  · have k1 : k < 0 := k1
    omega
  · rw [gld13 A S L B (by decide), hT.2.2.2.1]; exact hT0.2.2.2.2.1
  · rw [gld13 A S L B (by decide), hT.2.2.2.2.1]; exact hT0.2.2.2.2.2.1
  · rw [gld13 A S L B (by decide)] at k1
    rw [hT.2.2.2.2.2]; exact hT0.2.2.2.2.2.2 k k0 k1
theorem W_guild {B : Int → Int} (hF : Wf A) (hW : pW S) (hX : pX S L) (hB : srt (fun s => S (46 + s) 2) B (S 1 4)) : Wf (A_guild A S L B) := by
  have hY := hX.y hW
  have hRo := hX.ro hW
  have b3 := hW.2.2.2.1
  have n0 : A_guild A S L B 0 0 0 = S 1 0 := gld0 A S L B (by decide) 0
  have n1 : A_guild A S L B 0 1 0 = S 1 1 := gld0 A S L B (by decide) 0
  have n2 : A_guild A S L B 0 2 0 = S 1 2 := gld0 A S L B (by decide) 0
  have n3 : A_guild A S L B 0 3 0 = S 1 3 := gld0 A S L B (by decide) 0
  have n4 : A_guild A S L B 0 4 0 = S 1 4 := gld0 A S L B (by decide) 0
  have n5 : A_guild A S L B 0 5 0 = S 1 5 := gld0 A S L B (by decide) 0
  obtain ⟨-, -, ht⟩ := hF
  obtain ⟨t1, t2, t3, t4, t5, t6, t7⟩ := ht
  refine ⟨?_, ?_, ?_⟩
  · unfold Wg
    rw [n0, n1, n2, n3, n4, n5]
    refine ⟨⟨hW.1, hW.2.1, hW.2.2.1, hW.2.2.2.1, hW.2.2.2.2.1, hW.2.2.2.2.2.1, hX.2.2.2.2.2.1⟩, fun s s0 s1 => hX.2.1 s s0 s1, fun a b a0 a1 b0 b1 => ?_, fun i s i0 i1 s0 s1 => ⟨pss_rg hY ⟨i0, i1⟩ ⟨s0, s1⟩, prcF_rg hY hX.2.2.2.2.2.2.2 ⟨i0, i1⟩ _ _⟩, fun i i0 i1 => (hX.2.2.1 i i0 i1).1, fun i i0 i1 => hB.1 i i0 i1, fun i j i0 ij j1 => hB.2.1 i j i0 ij j1, fun s s0 s1 => hB.2.2 s s0 s1⟩
    have fk := fly_ok hRo (S 1 3).toNat (by omega) a b a0 (by omega) b0 (by omega)
    refine ⟨fk.1, fk.2.1, fk.2.2, fun c c0 c1 => ?_⟩
    exact fly_tri hRo (S 1 3).toNat (by omega) a c b a0 (by omega) c0 (by omega) b0 (by omega)
  · refine ⟨fun s s0 s1 => ?_, fun s t s0 s1 t0 t1 he hn => ?_, by show (0 : Int) ≤ 0 ∧ (0 : Int) ≤ 30; decide, fun n n0 n1 => ?_⟩
    · rw [n2]; have := hW.2.2.1
      show -1 ≤ (-1 : Int) ∧ (-1 : Int) < S 1 2; omega
    · have hn : (0 : Int) ≤ -1 := hn
      omega
    · have n1 : n < 0 := n1
      omega
  · refine ⟨by show (0 : Int) ≤ 0 ∧ (0 : Int) ≤ 1600; decide, fun k k0 k1 => ?_, by show (0 : Int) ≤ 0 ∧ (0 : Int) ≤ 5; decide, by show -1 ≤ (-1 : Int) ∧ (-1 : Int) ≤ 1600; decide, ?_, ?_, fun k k0 k1 => ?_⟩
    · have k1 : k < 0 := k1
      omega
    · rw [gld13 A S L B (by decide)]; exact t5
    · rw [gld13 A S L B (by decide)]; exact t6
    · rw [gld13 A S L B (by decide)] at k1; exact t7 k k0 k1
/-- how guild() ends in the class -/
def hgP (D : q_D) (g : Int) (f : q_F) (A : q_As) (v : Value) (z' : q_Z) (f' : q_F) : Prop := match sText (fun k => A 14 k 0) (A 13 0 3) (st0 (186 - g) f) with
  | .inl e => v = vi (-1) ∧ z' = Zg g (186 - g) ∧ Cst g f' (A_gbad A e) ∧ q_lo f f'
  | .inr s => v = vi (s.1 0 13) ∧ z' = Zg (186 - g) (186 - g) ∧ ∃ B, srt (fun i => s.1 (46 + i) 2) B (s.1 1 4) ∧ Cst (186 - g) f' (A_guild A s.1 s.2.1 B) ∧ q_lo f f'
theorem hs_guild (hS : Cst g f A) (hF : Wf A) : Ok D m_hs_guild [vr D 0] (Zg g h) f (hgP D g f A) := by
  have hg := hS.1
  have hh := q_G2 hg
  have b51 := q_G51 hh
  have b51g := q_G51 hg
  have hTW := hS.tW hF
  have hsep : 186 - g + 84 ≤ g ∨ g + 84 ≤ 186 - g := by rcases hg with rfl | rfl <;> omega
  have okr := ok_read (D := D) (g := g) (f := f) hh (h0 := h) (T := fun k => A 14 k 0) (N := A 13 0 3) hS.2.2.2.1 hTW (fun k k0 k1 => hS.2.2.2.2.1 k k0 k1)
  have hok := sText_ok (T := fun k => A 14 k 0) hTW.1.1 hTW.1.2 (st0 (186 - g) f)
  refine Ok_of (L0 := [vr D 0, vu, vu]) mi_hs_guild rfl rfl (Nat.le_of_ble_eq_true rfl) (fun C hR0 => ?_)
  have hR : ∀ (x : Int) (z' : Int × Int) (f' : q_F), hgP D g f A (vi x) (Zg z'.1 z'.2) f' → q_ret D C m_hs_guild (vi x) (Zg z'.1 z'.2) f' := by
    intro x z' f' hp
    exact hR0 (vi x) (Zg z'.1 z'.2) f' (Nat.zero_le _) (Nat.zero_le _) ⟨.int, rfl, rfl⟩ hp
  clear hR0
  unfold hgP at hR
  generalize hr : sText (fun k => A 14 k 0) (A 13 0 3) (st0 (186 - g) f) = r at *
  refine V_aload_0 d_hs_guild_0 ?_
  refine V_getR d_hs_guild_1 fl_hs_21 is_hs r_hs_reader ?_
  refine V_aload_0 d_hs_guild_4 ?_
  refine V_getR d_hs_guild_5 fl_hs_61 is_hs (r_hs_spare hg) ?_
  refine V_callV (M' := m_gr_read) (As := [vr D (186 - g)]) (rest := []) (q := 3) d_hs_guild_8 ml_hs_71 mv_gr_read.1 mv_gr_read.2.1 mv_gr_read.2.2.2 (by decide) rfl (by decide) (by decide) (by show (3 : Int).toNat < 274; decide) rfl ⟨Nat.le_of_ble_eq_true rfl, Nat.le_of_ble_eq_true rfl⟩ okr ?_
  rintro v z' F ⟨rfl, x, rfl, hx⟩
  show V D C m_hs_guild 11 [vr D 0, vu, vu] [vi x] (Zg g (186 - g)) F
  cases r with
  | inl e =>
    obtain ⟨rfl, x3, x4, xk⟩ := hx
    have done : Cst g (q_up F 1 1 0) (A_gbad A e) ∧ q_lo f (q_up F 1 1 0) := by
      refine ⟨hS.gbad hF e (fun j k a b c => by rw [q_up_at a]; exact xk j k a b c) (q_up_eq _ _ _ _) (by rw [q_up_ne (by omega)]; exact x3) (by rw [q_up_ne (by omega)]; exact x4), fun j k hj => ?_⟩
      rw [q_up_at (by omega)]; exact xk j k (by omega) (by rcases hg with rfl | rfl <;> omega) (by omega)
    have hR' := hR (-1) (g, 186 - g) (q_up F 1 1 0) ⟨rfl, rfl, done⟩
    refine V_istore_1 d_hs_guild_11 rfl ?_
    refine V_aload_0 d_hs_guild_12 ?_
    refine V_getR d_hs_guild_13 fl_hs_10 is_hs r_hs_tape ?_
    refine V_iconst 0 d_hs_guild_16 ?_
    refine V_putI d_hs_guild_17 fl_hs_64 is_tp ?_
    refine V_iload_1 d_hs_guild_20 ?_
    refine V_if_ne 26 d_hs_guild_21 (by decide) (by omega) (fun c21 => by omega) (fun c21 => ?_)
    refine V_iconst (-1) d_hs_guild_24 ?_
    exact V_ireturn d_hs_guild_25 hR'
  | inr s =>
    obtain ⟨S, L, q, d⟩ := s
    obtain ⟨rfl, xE, xc, x3, x4, xk, xW, xl⟩ := hx
    have hX := (hok S L q d rfl).2.1
    have E1 : cE (186 - g) (q_up F 1 1 0) S := ⟨fun j k a b => by rw [q_up_at (by omega)]; exact xE.1 j k a b, fun k => by rw [q_up_at (by decide)]; exact xE.2.1 k, fun k => by rw [q_up_at (by decide)]; exact xE.2.2 k⟩
    have c1 : cdS (q_up F 1 1 0) L := ⟨by rw [q_up_at (by decide)]; exact xc.1, fun k hk => by rw [q_up_at (by decide)]; exact xc.2 k hk⟩
    have K51 : ∀ F2 : q_F, gv (186 - g) F2 S → (∀ a b, 0 ≤ a → a < S 1 3 → 0 ≤ b → b < S 1 3 → F2 (186 - g + 37 + a) b = fly (rdS S) (S 1 3).toNat a b) → srt (fun s => S (46 + s) 2) (fun k => F2 (186 - g + 83) k) (S 1 4) → (∀ s, 0 ≤ s → s < S 1 4 → F2 (186 - g + 82) s = mB (fun j => decide (j < S 1 4) && nr S (fly (rdS S) (S 1 3).toNat) (S (46 + s) 1) (S (46 + s) 2) j)) → (∀ i s, 0 ≤ i → i < S 1 2 → 0 ≤ s → s < S 1 4 → F2 (186 - g + 71 + i) s = pss S i s) → (∀ i s, 0 ≤ i → i < S 1 2 → 0 ≤ s → s < S 1 4 → F2 (186 - g + 77 + i) s = prc S L i s) → (∀ j k, ¬ (186 - g + 37 ≤ j ∧ j < 186 - g + 84) → ¬ (j = 8 ∨ j = 9) → ¬ (j = 4 ∧ k = 7) → F2 j k = q_up F 1 1 0 j k) → ∀ u, V D C m_hs_guild 51 [vr D 0, vi 1, u] [] (Zg (186 - g) (186 - g)) F2 := by
      intro F2 g1 g2 g3 g4 g5 g6 g7 u
      have fr : ∀ j k, ¬ j = 1 → ¬ (186 - g ≤ j ∧ j < 186 - g + 84) → ¬ (4 ≤ j ∧ j ≤ 9) → F2 j k = f j k := fun j k a b c => by
        rw [g7 j k (by omega) (by omega) (by omega), q_up_at a]; exact xk j k a b (by omega)
      have t1 : F2 1 1 = 0 := by rw [g7 _ _ (by omega) (by omega) (by omega), q_up_eq]
      have t3 : F2 1 3 = 0 := by rw [g7 _ _ (by omega) (by omega) (by omega), q_up_ne (by omega)]; exact x3
      have t4 : F2 1 4 = -1 := by rw [g7 _ _ (by omega) (by omega) (by omega), q_up_ne (by omega)]; exact x4
      have e13 : F2 (186 - g) 13 = S 0 13 := by have := g1 0 13 (by decide) (by decide); rw [Int.add_zero] at this; exact this
      refine V_aload_0 d_hs_guild_51 ?_
      refine V_getR d_hs_guild_52 fl_hs_28 is_hs r_hs_hires ?_
      refine V_cvV0 d_hs_guild_55 ml_hs_78 mv_hi_clear (by decide) (Nat.le_of_ble_eq_true rfl) is_hi (ok_clear) ?_
      rintro F3 ⟨k1, k2, k3⟩
      have e13' : F3 (186 - g) 13 = S 0 13 := by rw [k1 _ _ (by omega) (by omega)]; exact e13
      have done : Cst (186 - g) F3 (A_guild A S L (fun k => F2 (186 - g + 83) k)) := by
        refine Cst.guild hh hS xW hX (g1.fr (fun j k _ _ h3 => k1 j k (by omega) (by omega))) (fun a b a0 a1 b0 b1 => ?_) (fun k => k1 _ _ (by omega) (by omega)) (fun s s0 s1 => ?_) (fun i s i0 i1 s0 s1 => ?_) (fun i s i0 i1 s0 s1 => ?_) ⟨k2, ?_, k3⟩ ⟨?_, ?_, ?_, ?_, ?_, fun k => ?_⟩
        · rw [k1 _ _ (by omega) (by omega)]; exact g2 a b a0 a1 b0 b1
        · rw [k1 _ _ (by omega) (by omega)]; exact g4 s s0 s1
        · rw [k1 _ _ (by omega) (by omega)]; exact g5 i s i0 i1 s0 s1
        · rw [k1 _ _ (by omega) (by omega)]; exact g6 i s i0 i1 s0 s1
        · rw [k1 _ _ (by omega) (by omega)]; exact fr _ _ (by omega) (by omega) (by omega)
        · rw [k1 _ _ (by omega) (by omega)]; exact t1
        · rw [k1 _ _ (by omega) (by omega)]; exact t3
        · rw [k1 _ _ (by omega) (by omega)]; exact t4
        · rw [k1 _ _ (by omega) (by omega)]; exact fr _ _ (by omega) (by omega) (by omega)
        · rw [k1 _ _ (by omega) (by omega)]; exact fr _ _ (by omega) (by omega) (by omega)
        · rw [k1 _ _ (by omega) (by omega)]; exact fr _ _ (by omega) (by omega) (by omega)
      have hR' := hR (S 0 13) (186 - g, 186 - g) F3 ⟨rfl, rfl, _, g3, done, fun j k hj => by rw [k1 _ _ (by omega) (by omega)]; exact fr j k (by omega) (by rcases hg with rfl | rfl <;> omega) (by omega)⟩
      refine V_aload_0 d_hs_guild_58 ?_
      refine V_getR d_hs_guild_59 fl_hs_57 is_hs (r_hs_now hh) ?_
      refine V_getI d_hs_guild_62 fl_hs_81 (is_gd hh) ?_
      rw [e13']
      exact V_ireturn d_hs_guild_65 hR'
    refine V_istore_1 d_hs_guild_11 rfl ?_
    refine V_aload_0 d_hs_guild_12 ?_
    refine V_getR d_hs_guild_13 fl_hs_10 is_hs r_hs_tape ?_
    refine V_iconst 0 d_hs_guild_16 ?_
    refine V_putI d_hs_guild_17 fl_hs_64 is_tp ?_
    refine V_iload_1 d_hs_guild_20 ?_
    refine V_if_ne 26 d_hs_guild_21 (by decide) (by omega) (fun c21 => ?_) (fun c21 => by omega)
    refine V_aload_0 d_hs_guild_26 ?_
    refine V_getR d_hs_guild_27 fl_hs_21 is_hs r_hs_reader ?_
    refine V_cvV0 d_hs_guild_30 ml_hs_75 mv_gr_settle (by decide) (Nat.le_of_ble_eq_true rfl) is_gr (ok_grsettle hh E1 c1 xW hX xl) ?_
    rintro F2 ⟨g1, g2, g3, g4, g5, g6, g7⟩
    refine V_aload_0 d_hs_guild_33 ?_
    refine V_getR d_hs_guild_34 fl_hs_57 is_hs (r_hs_now hg) ?_
    refine V_astore_2 d_hs_guild_37 rfl ?_
    refine V_aload_0 d_hs_guild_38 ?_
    refine V_aload_0 d_hs_guild_39 ?_
    refine V_getR d_hs_guild_40 fl_hs_61 is_hs (r_hs_spare hg) ?_
    refine V_putR d_hs_guild_43 fl_hs_57 is_hs rfl rfl rfl (by omega) ?_
    refine V_aload_0 d_hs_guild_46 ?_
    refine V_aload_2 d_hs_guild_47 ?_
    refine V_putR d_hs_guild_48 fl_hs_61 is_hs rfl rfl rfl (by omega) ?_
    refine V_rf2 (rf' := RF (186 - g) (186 - g)) (fun j k hj => RF_swap (g := g) (186 - g) j k hj) ?_
    exact K51 F2 g1 g2 g3 g4 g5 g6 g7 _
end HSG
