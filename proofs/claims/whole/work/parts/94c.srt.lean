/-! the class puts the sightings in order -/
def ltH (H : Int → Int) (x y : Int) : Prop := H x < H y ∨ (H x = H y ∧ x < y)
def srt (H B : Int → Int) (n : Int) : Prop := (∀ i, 0 ≤ i → i < n → 0 ≤ B i ∧ B i < n) ∧ (∀ i j, 0 ≤ i → i < j → j < n → ltH H (B i) (B j)) ∧ ∀ x, 0 ≤ x → x < n → ∃ i, 0 ≤ i ∧ i < n ∧ B i = x
section SRT
variable {D : q_D} {f f' S : q_F} {A : q_As} {g h : Int} {H B : Int → Int}
theorem srt.ins {s a : Int} (hB : srt H B s) (ha : 0 ≤ a ∧ a ≤ s) (h1 : ∀ k, a ≤ k → k < s → H s < H (B k)) (h2 : 0 < a → H (B (a - 1)) ≤ H s) {B' : Int → Int} (hB' : ∀ k, 0 ≤ k → k ≤ s → B' k = if k < a then B k else if k = a then s else B (k - 1)) : srt H B' (s + 1) := by
  obtain ⟨r1, r2, r3⟩ := hB
  have lo : ∀ k, 0 ≤ k → k < a → ltH H (B k) s := fun k k0 k1 => by
    have g := r1 k k0 (by omega)
    have gh := h2 (by omega)
    by_cases e : k = a - 1
    · rw [e] at g ⊢; unfold ltH; omega
    · have := r2 k (a - 1) k0 (by omega) (by omega)
      unfold ltH at this ⊢; omega
  have hi : ∀ k, a ≤ k → k < s → ltH H s (B k) := fun k k0 k1 => Or.inl (h1 k k0 k1)
  refine ⟨fun i i0 i1 => ?_, fun i j i0 ij j1 => ?_, fun x x0 x1 => ?_⟩
  · rw [hB' i i0 (by omega)]
    split
    · have := r1 i i0 (by omega); omega
    · split
      · omega
      · have := r1 (i - 1) (by omega) (by omega); omega
  · rw [hB' i i0 (by omega), hB' j (by omega) (by omega)]
    by_cases e1 : i < a
    · rw [if_pos e1]
      by_cases e2 : j < a
      · rw [if_pos e2]; exact r2 i j i0 ij (by omega)
      · rw [if_neg e2]
        by_cases e3 : j = a
        · rw [if_pos e3]; exact lo i i0 e1
        · rw [if_neg e3]; exact r2 i (j - 1) i0 (by omega) (by omega)
    · rw [if_neg e1, if_neg (show ¬ j < a by omega), if_neg (show ¬ j = a by omega)]
      by_cases e3 : i = a
      · rw [if_pos e3]; exact hi _ (by omega) (by omega)
      · rw [if_neg e3]; exact r2 (i - 1) (j - 1) (by omega) (by omega) (by omega)
  · by_cases ex : x = s
    · exact ⟨a, ha.1, by omega, by rw [hB' a ha.1 ha.2, if_neg (by omega), if_pos rfl, ex]⟩
    · obtain ⟨i, i0, i1, hi⟩ := r3 x x0 (by omega)
      by_cases e1 : i < a
      · exact ⟨i, i0, by omega, by rw [hB' i i0 (by omega), if_pos e1, hi]⟩
      · exact ⟨i + 1, by omega, by omega, by rw [hB' (i + 1) (by omega) (by omega), if_neg (by omega), if_neg (by omega), show i + 1 - 1 = i by omega, hi]⟩
theorem ok_sortByHour (hh : q_G h) (hG : gv h f S) (hY : pY S) : OkV D m_gd_sortByHour [vr D h] (Zg g h) f (fun f' => srt (fun s => S (46 + s) 2) (fun k => f' (h + 83) k) (S 1 4) ∧ ∀ j k, ¬ j = h + 83 → f' j k = f j k) := by
  have hg2 := q_G51 hh
  have hW := hY.1
  have b4 := hW.2.2.2.2.1
  refine OkV_of (L0 := [vr D h, vu, vu]) mi_gd_sortByHour rfl rfl (Nat.le_of_ble_eq_true rfl) (fun C hR => ?_)
  have inner : ∀ (m : Nat) (s a : Int) (B : Int → Int) (F : q_F), a = m → a ≤ s → 0 ≤ s → s < S 1 4 → srt (fun s => S (46 + s) 2) B s → (∀ k, a ≤ k → k < s → S (46 + s) 2 < S (46 + B k) 2) → (∀ k, 0 ≤ k → k ≤ s → ¬ k = a → F (h + 83) k = if k < a then B k else B (k - 1)) → (∀ j k, ¬ j = h + 83 → F j k = f j k) → (∀ (F' : q_F) (u : Value), srt (fun s => S (46 + s) 2) (fun k => F' (h + 83) k) (s + 1) → (∀ j k, ¬ j = h + 83 → F' j k = f j k) → V D C m_gd_sortByHour 2 [vr D h, vi (s + 1), u] [] (Zg g h) F') → V D C m_gd_sortByHour 14 [vr D h, vi s, vi a] [] (Zg g h) F := by
    intro m
    induction m with
    | zero =>
      intro s a B F ha has s0 s1 hB h1 hF hfr K
      refine V_iload_2 d_gd_sortByHour_14 ?_
      refine V_if_le 64 d_gd_sortByHour_15 (by decide) (by omega) (fun c15 => ?_) (fun c15 => by omega)
      refine V_aload_0 d_gd_sortByHour_64 ?_
      refine V_getR d_gd_sortByHour_65 fl_gd_50 (is_gd hh) (r_gd_byHour hh) ?_
      refine V_iload_2 d_gd_sortByHour_68 ?_
      refine V_iload_1 d_gd_sortByHour_69 ?_
      refine V_iast d_gd_sortByHour_70 (is_gd_byHour hh) (by omega) (by omega) ?_
      refine V_iinc_1 d_gd_sortByHour_71 rfl ?_
      refine V_goto 2 d_gd_sortByHour_74 (by decide) ?_
      refine K _ _ ?_ (fun j k hj => by rw [q_up_at hj]; exact hfr j k hj)
      refine hB.ins (a := a) (by omega) h1 (fun hc => by omega) (fun k k0 k1 => ?_)
      by_cases ek : k = a
      · rw [ek, q_up_eq, if_neg (by omega), if_pos rfl]
      · rw [q_up_ne (Or.inr ek), hF k k0 k1 ek, if_neg (by omega), if_neg (by omega), if_neg ek]
    | succ m ih =>
      intro s a B F ha has s0 s1 hB h1 hF hfr K
      have g1 := hG.fr (f' := F) (fun j k _ h2 _ => hfr j k (by omega))
      have e1 : F (h + 83) (a - 1) = B (a - 1) := by rw [hF _ (by omega) (by omega) (by omega), if_pos (by omega)]
      have rB := hB.1 (a - 1) (by omega) (by omega)
      have x1 := hY.2.1 (B (a - 1)) rB.1 (by omega)
      have x2 := hY.2.1 s s0 s1
      have w1 := g1.sg (s := B (a - 1)) (by omega) 2
      have w2 := g1.sg (s := s) (by omega) 2
      refine V_iload_2 d_gd_sortByHour_14 ?_
      refine V_if_le 64 d_gd_sortByHour_15 (by decide) (by omega) (fun c15 => by omega) (fun c15 => ?_)
      refine V_aload_0 d_gd_sortByHour_18 ?_
      refine V_getR d_gd_sortByHour_19 fl_gd_38 (is_gd hh) (r_gd_sightings hh) ?_
      refine V_aload_0 d_gd_sortByHour_22 ?_
      refine V_getR d_gd_sortByHour_23 fl_gd_50 (is_gd hh) (r_gd_byHour hh) ?_
      refine V_iload_2 d_gd_sortByHour_26 ?_
      refine V_iconst 1 d_gd_sortByHour_27 ?_
      refine V_isub d_gd_sortByHour_28 ?_
      refine V_iald d_gd_sortByHour_29 (is_gd_byHour hh) (by omega) (by omega) ?_
      rw [e1]
      refine V_aald d_gd_sortByHour_30 (is_gd_sightings hh) (by omega) (by omega) (r_gd_sightingsrow hh (by omega)) ?_
      refine V_iconst 2 d_gd_sortByHour_31 ?_
      refine V_iald d_gd_sortByHour_32 (is_gd_sightings_row hh (by omega)) (by omega) (by omega) ?_
      rw [w1]
      refine V_aload_0 d_gd_sortByHour_33 ?_
      refine V_getR d_gd_sortByHour_34 fl_gd_38 (is_gd hh) (r_gd_sightings hh) ?_
      refine V_iload_1 d_gd_sortByHour_37 ?_
      refine V_aald d_gd_sortByHour_38 (is_gd_sightings hh) (by omega) (by omega) (r_gd_sightingsrow hh (by omega)) ?_
      refine V_iconst 2 d_gd_sortByHour_39 ?_
      refine V_iald d_gd_sortByHour_40 (is_gd_sightings_row hh (by omega)) (by omega) (by omega) ?_
      rw [w2]
      refine V_icmp_le 64 d_gd_sortByHour_41 (by decide) (by omega) (by omega) (fun c41 => ?_) (fun c41 => ?_)
      · skip
        refine V_aload_0 d_gd_sortByHour_64 ?_
        refine V_getR d_gd_sortByHour_65 fl_gd_50 (is_gd hh) (r_gd_byHour hh) ?_
        refine V_iload_2 d_gd_sortByHour_68 ?_
        refine V_iload_1 d_gd_sortByHour_69 ?_
        refine V_iast d_gd_sortByHour_70 (is_gd_byHour hh) (by omega) (by omega) ?_
        refine V_iinc_1 d_gd_sortByHour_71 rfl ?_
        refine V_goto 2 d_gd_sortByHour_74 (by decide) ?_
        refine K _ _ ?_ (fun j k hj => by rw [q_up_at hj]; exact hfr j k hj)
        refine hB.ins (a := a) (by omega) h1 (fun _ => c41) (fun k k0 k1 => ?_)
        by_cases ek : k = a
        · rw [ek, q_up_eq, if_neg (by omega), if_pos rfl]
        · rw [q_up_ne (Or.inr ek), hF k k0 k1 ek]
          by_cases e3 : k < a
          · rw [if_pos e3, if_pos e3]
          · rw [if_neg e3, if_neg e3, if_neg ek]
      · skip
        refine V_aload_0 d_gd_sortByHour_44 ?_
        refine V_getR d_gd_sortByHour_45 fl_gd_50 (is_gd hh) (r_gd_byHour hh) ?_
        refine V_iload_2 d_gd_sortByHour_48 ?_
        refine V_aload_0 d_gd_sortByHour_49 ?_
        refine V_getR d_gd_sortByHour_50 fl_gd_50 (is_gd hh) (r_gd_byHour hh) ?_
        refine V_iload_2 d_gd_sortByHour_53 ?_
        refine V_iconst 1 d_gd_sortByHour_54 ?_
        refine V_isub d_gd_sortByHour_55 ?_
        refine V_iald d_gd_sortByHour_56 (is_gd_byHour hh) (by omega) (by omega) ?_
        rw [e1]
        refine V_iast d_gd_sortByHour_57 (is_gd_byHour hh) (by omega) (by omega) ?_
        refine V_iinc_2 d_gd_sortByHour_58 rfl ?_
        refine V_goto 14 d_gd_sortByHour_61 (by decide) ?_
        refine ih s _ B _ (by push_cast at ha; omega) (by omega) s0 s1 hB (fun k k0 k1 => ?_) (fun k k0 k1 k2 => ?_) (fun j k hj => by rw [q_up_at hj]; exact hfr j k hj) K
        · by_cases ek : k = a - 1
          · rw [ek]; omega
          · exact h1 k (by omega) k1
        · by_cases ek : k = a
          · rw [ek, q_up_eq, if_neg (by omega)]
          · rw [q_up_ne (Or.inr ek), hF k k0 k1 ek]
            by_cases e3 : k < a
            · rw [if_pos e3, if_pos (by omega)]
            · rw [if_neg e3, if_neg (by omega)]
  have outer : ∀ (m : Nat) (s : Int) (F : q_F) (u : Value), s + m = S 1 4 → 0 ≤ s → srt (fun s => S (46 + s) 2) (fun k => F (h + 83) k) s → (∀ j k, ¬ j = h + 83 → F j k = f j k) → V D C m_gd_sortByHour 2 [vr D h, vi s, u] [] (Zg g h) F := by
    intro m
    induction m with
    | zero =>
      intro s F u sm s0 hB hfr
      have c4 : F (h + 1) 4 = S 1 4 := by rw [hfr _ _ (by omega)]; exact hG.ct 4
      refine V_iload_1 d_gd_sortByHour_2 ?_
      refine V_aload_0 d_gd_sortByHour_3 ?_
      refine V_getR d_gd_sortByHour_4 fl_gd_9 (is_gd hh) (r_gd_counts hh) ?_
      refine V_iconst 4 d_gd_sortByHour_7 ?_
      refine V_iald d_gd_sortByHour_8 (is_gd_counts hh) (by omega) (by omega) ?_
      rw [c4]
      refine V_icmp_ge 77 d_gd_sortByHour_9 (by decide) (by omega) (by omega) (fun c9 => ?_) (fun c9 => by omega)
      refine V_return d_gd_sortByHour_77 (hR _ ?_)
      exact ⟨by rw [show S 1 4 = s by omega]; exact hB, hfr⟩
    | succ m ih =>
      intro s F u sm s0 hB hfr
      have c4 : F (h + 1) 4 = S 1 4 := by rw [hfr _ _ (by omega)]; exact hG.ct 4
      refine V_iload_1 d_gd_sortByHour_2 ?_
      refine V_aload_0 d_gd_sortByHour_3 ?_
      refine V_getR d_gd_sortByHour_4 fl_gd_9 (is_gd hh) (r_gd_counts hh) ?_
      refine V_iconst 4 d_gd_sortByHour_7 ?_
      refine V_iald d_gd_sortByHour_8 (is_gd_counts hh) (by omega) (by omega) ?_
      rw [c4]
      refine V_icmp_ge 77 d_gd_sortByHour_9 (by decide) (by omega) (by omega) (fun c9 => by omega) (fun c9 => ?_)
      refine V_iload_1 d_gd_sortByHour_12 ?_
      refine V_istore_2 d_gd_sortByHour_13 rfl ?_
      exact inner s.toNat s s _ F (by omega) (Int.le_refl _) s0 (by omega) hB (fun k k0 k1 => by omega) (fun k k0 k1 k2 => by rw [if_pos (by omega)]) hfr (fun F' u h1 h2 => ih (s + 1) F' u (by omega) (by omega) h1 h2)
  refine V_iconst 0 d_gd_sortByHour_0 ?_
  refine V_istore_1 d_gd_sortByHour_1 rfl ?_
  exact outer (S 1 4).toNat _ f _ (by omega) (by decide) ⟨fun i a b => by omega, fun i j a b c => by omega, fun x a b => by omega⟩ (fun _ _ _ => rfl)
/-- all but the prices -/
theorem ok_settle (hh : q_G h) (hG : gv h f S) (hY : pY S) {R : Int → Int → Int} (hRo : roK R) (hf : ∀ a b, 0 ≤ a → a < 8 → 0 ≤ b → b < 8 → f (h + 37 + a) b = R a b) : OkV D m_gd_settle [vr D h] (Zg g h) f (fun f' => gv h f' S ∧ (∀ a b, 0 ≤ a → a < S 1 3 → 0 ≤ b → b < S 1 3 → f' (h + 37 + a) b = fly R (S 1 3).toNat a b) ∧ srt (fun s => S (46 + s) 2) (fun k => f' (h + 83) k) (S 1 4) ∧ (∀ s, 0 ≤ s → s < S 1 4 → f' (h + 82) s = mB (fun j => decide (j < S 1 4) && nr S (fly R (S 1 3).toNat) (S (46 + s) 1) (S (46 + s) 2) j)) ∧ (∀ i s, 0 ≤ i → i < S 1 2 → 0 ≤ s → s < S 1 4 → f' (h + 71 + i) s = pss S i s) ∧ ∀ j k, ¬ (h + 37 ≤ j ∧ j < h + 84) → f' j k = f j k) := by
  have hg2 := q_G51 hh
  have hW := hY.1
  have b2 := hW.2.2.1
  have b3 := hW.2.2.2.1
  have b4 := hW.2.2.2.2.1
  refine OkV_of (L0 := [vr D h, vu, vu]) mi_gd_settle rfl rfl (Nat.le_of_ble_eq_true rfl) (fun C hR => ?_)
  have inv : ∀ (F : q_F), True := fun _ => trivial
  have inner : ∀ (m : Nat) (s i : Int) (F : q_F), i + m = S 1 2 → 0 ≤ i → 0 ≤ s → s < S 1 4 → gv h F S → (∀ k, 0 ≤ k → k < i → F (h + 71 + k) s = pss S k s) → (∀ F' : q_F, gv h F' S → (∀ k, 0 ≤ k → k < S 1 2 → F' (h + 71 + k) s = pss S k s) → (∀ j k, ¬ (h + 71 ≤ j ∧ j < h + 76 ∧ k = s) → F' j k = F j k) → V D C m_gd_settle 10 [vr D h, vi (s + 1), vi (S 1 2)] [] (Zg g h) F') → V D C m_gd_settle 48 [vr D h, vi s, vi i] [] (Zg g h) F := by
    intro m
    induction m with
    | zero =>
      intro s i F im i0 s0 s1 hGF hP K
      have c2 := hGF.ct 2
      refine V_iload_2 d_gd_settle_48 ?_
      refine V_aload_0 d_gd_settle_49 ?_
      refine V_getR d_gd_settle_50 fl_gd_9 (is_gd hh) (r_gd_counts hh) ?_
      refine V_iconst 2 d_gd_settle_53 ?_
      refine V_iald d_gd_settle_54 (is_gd_counts hh) (by omega) (by omega) ?_
      rw [c2]
      refine V_icmp_ge 78 d_gd_settle_55 (by decide) (by omega) (by omega) (fun c55 => ?_) (fun c55 => by omega)
      refine V_iinc_1 d_gd_settle_78 rfl ?_
      refine V_goto 10 d_gd_settle_81 (by decide) ?_
      rw [show i = S 1 2 by omega]
      exact K F hGF (fun k k0 k1 => hP k k0 (by omega)) (fun _ _ _ => rfl)
    | succ m ih =>
      intro s i F im i0 s0 s1 hGF hP K
      have c2 := hGF.ct 2
      refine V_iload_2 d_gd_settle_48 ?_
      refine V_aload_0 d_gd_settle_49 ?_
      refine V_getR d_gd_settle_50 fl_gd_9 (is_gd hh) (r_gd_counts hh) ?_
      refine V_iconst 2 d_gd_settle_53 ?_
      refine V_iald d_gd_settle_54 (is_gd_counts hh) (by omega) (by omega) ?_
      rw [c2]
      refine V_icmp_ge 78 d_gd_settle_55 (by decide) (by omega) (by omega) (fun c55 => by omega) (fun c55 => ?_)
      refine V_aload_0 d_gd_settle_58 ?_
      refine V_getR d_gd_settle_59 fl_gd_41 (is_gd hh) (r_gd_passes hh) ?_
      refine V_iload_2 d_gd_settle_62 ?_
      refine V_aald d_gd_settle_63 (is_gd_passes hh) (by omega) (by omega) (r_gd_passesrow hh (by omega)) ?_
      refine V_iload_1 d_gd_settle_64 ?_
      refine V_aload_0 d_gd_settle_65 ?_
      refine V_iload_2 d_gd_settle_66 ?_
      refine V_iload_1 d_gd_settle_67 ?_
      refine V_cvI2 d_gd_settle_68 ml_gd_85 mv_gd_passOf (by decide) (Nat.le_of_ble_eq_true rfl) (is_gd hh) (ok_passOf hh hGF hY (by omega) (by omega)) ?_
      rintro _ f2 ⟨rfl, e2⟩
      rw [e2]; clear e2 f2
      refine V_iast d_gd_settle_71 (is_gd_passes_row hh (by omega)) (by omega) (by omega) ?_
      refine V_iinc_2 d_gd_settle_72 rfl ?_
      refine V_goto 48 d_gd_settle_75 (by decide) ?_
      refine ih s _ _ (by omega) (by omega) s0 s1 (hGF.fr (fun j k _ h2 _ => q_up_ne (by omega))) (fun k k0 k1 => ?_) (fun F' a b c => K F' a b (fun j k hj => ?_))
      · by_cases ek : k = i
        · rw [ek, q_up_eq]
        · rw [q_up_ne (by omega)]; exact hP k k0 (by omega)
      · rw [c j k hj, q_up_ne (by omega)]
  have outer : ∀ (m : Nat) (s : Int) (F : q_F) (u : Value), s + m = S 1 4 → 0 ≤ s → gv h F S → (∀ a b, 0 ≤ a → a < S 1 3 → 0 ≤ b → b < S 1 3 → F (h + 37 + a) b = fly R (S 1 3).toNat a b) → srt (fun s => S (46 + s) 2) (fun k => F (h + 83) k) (S 1 4) → (∀ k, 0 ≤ k → k < s → F (h + 82) k = mB (fun j => decide (j < S 1 4) && nr S (fly R (S 1 3).toNat) (S (46 + k) 1) (S (46 + k) 2) j)) → (∀ i k, 0 ≤ i → i < S 1 2 → 0 ≤ k → k < s → F (h + 71 + i) k = pss S i k) → (∀ j k, ¬ (h + 37 ≤ j ∧ j < h + 84) → F j k = f j k) → V D C m_gd_settle 10 [vr D h, vi s, u] [] (Zg g h) F := by
    intro m
    induction m with
    | zero =>
      intro s F u sm s0 hGF h1 h2 h3 h4 h5
      have c4 := hGF.ct 4
      refine V_iload_1 d_gd_settle_10 ?_
      refine V_aload_0 d_gd_settle_11 ?_
      refine V_getR d_gd_settle_12 fl_gd_9 (is_gd hh) (r_gd_counts hh) ?_
      refine V_iconst 4 d_gd_settle_15 ?_
      refine V_iald d_gd_settle_16 (is_gd_counts hh) (by omega) (by omega) ?_
      rw [c4]
      refine V_icmp_ge 84 d_gd_settle_17 (by decide) (by omega) (by omega) (fun c17 => ?_) (fun c17 => by omega)
      refine V_return d_gd_settle_84 (hR _ ?_)
      exact ⟨hGF, h1, h2, fun k k0 k1 => h3 k k0 (by omega), fun i k i0 i1 k0 k1 => h4 i k i0 i1 k0 (by omega), h5⟩
    | succ m ih =>
      intro s F u sm s0 hGF h1 h2 h3 h4 h5
      have c4 := hGF.ct 4
      have hx := hY.2.1 s s0 (by omega)
      have w1 := hGF.sg (s := s) (by omega) 1
      have w2 := hGF.sg (s := s) (by omega) 2
      have flk := fly_ok hRo (S 1 3).toNat (by omega)
      refine V_iload_1 d_gd_settle_10 ?_
      refine V_aload_0 d_gd_settle_11 ?_
      refine V_getR d_gd_settle_12 fl_gd_9 (is_gd hh) (r_gd_counts hh) ?_
      refine V_iconst 4 d_gd_settle_15 ?_
      refine V_iald d_gd_settle_16 (is_gd_counts hh) (by omega) (by omega) ?_
      rw [c4]
      refine V_icmp_ge 84 d_gd_settle_17 (by decide) (by omega) (by omega) (fun c17 => by omega) (fun c17 => ?_)
      refine V_aload_0 d_gd_settle_20 ?_
      refine V_getR d_gd_settle_21 fl_gd_47 (is_gd hh) (r_gd_meets hh) ?_
      refine V_iload_1 d_gd_settle_24 ?_
      refine V_aload_0 d_gd_settle_25 ?_
      refine V_aload_0 d_gd_settle_26 ?_
      refine V_getR d_gd_settle_27 fl_gd_38 (is_gd hh) (r_gd_sightings hh) ?_
      refine V_iload_1 d_gd_settle_30 ?_
      refine V_aald d_gd_settle_31 (is_gd_sightings hh) (by omega) (by omega) (r_gd_sightingsrow hh (by omega)) ?_
      refine V_iconst 1 d_gd_settle_32 ?_
      refine V_iald d_gd_settle_33 (is_gd_sightings_row hh (by omega)) (by omega) (by omega) ?_
      rw [w1]
      refine V_aload_0 d_gd_settle_34 ?_
      refine V_getR d_gd_settle_35 fl_gd_38 (is_gd hh) (r_gd_sightings hh) ?_
      refine V_iload_1 d_gd_settle_38 ?_
      refine V_aald d_gd_settle_39 (is_gd_sightings hh) (by omega) (by omega) (r_gd_sightingsrow hh (by omega)) ?_
      refine V_iconst 2 d_gd_settle_40 ?_
      refine V_iald d_gd_settle_41 (is_gd_sightings_row hh (by omega)) (by omega) (by omega) ?_
      rw [w2]
      refine V_cvI2 d_gd_settle_42 ml_gd_82 mv_gd_near (by decide) (Nat.le_of_ble_eq_true rfl) (is_gd hh) (ok_nearS hh hGF hY (hm := fly R (S 1 3).toNat) (fun a b a0 a1 b0' b1' => ⟨h1 a b a0 a1 b0' b1', (flk a b a0 (by omega) b0' (by omega)).1⟩) hx.2.1 hx.2.2.1) ?_
      rintro _ f2 ⟨rfl, e2⟩
      rw [e2]; clear e2 f2
      refine V_iast d_gd_settle_45 (is_gd_meets hh) (by omega) (by omega) ?_
      refine V_iconst 0 d_gd_settle_46 ?_
      refine V_istore_2 d_gd_settle_47 rfl ?_
      refine inner (S 1 2).toNat s _ _ (by omega) (by decide) s0 (by omega) (hGF.fr (fun j k _ h2 _ => q_up_ne (by omega))) (fun k k0 k1 => by omega) (fun F' g1 g2 g3 => ih (s + 1) F' _ (by omega) (by omega) g1 (fun a b a0 a1 b0' b1' => ?_) ?_ (fun k k0 k1 => ?_) (fun i k i0 i1 k0 k1 => ?_) (fun j k hj => ?_))
      · rw [g3 _ _ (by omega), q_up_ne (by omega)]; exact h1 a b a0 a1 b0' b1'
      · have e : (fun k => F' (h + 83) k) = fun k => F (h + 83) k := by
          funext k; rw [g3 _ _ (by omega), q_up_ne (by omega)]
        rw [e]; exact h2
      · rw [g3 _ _ (by omega)]
        by_cases ek : k = s
        · rw [ek, q_up_eq]
        · rw [q_up_ne (by omega)]; exact h3 k k0 (by omega)
      · by_cases ek : k = s
        · rw [ek]; exact g2 i i0 i1
        · rw [g3 _ _ (by omega), q_up_ne (by omega)]; exact h4 i k i0 i1 k0 (by omega)
      · rw [g3 _ _ (by omega), q_up_ne (by omega)]; exact h5 j k hj
  refine V_aload_0 d_gd_settle_0 ?_
  refine V_cvV0 d_gd_settle_1 ml_gd_76 mv_gd_joinRoads (by decide) (Nat.le_of_ble_eq_true rfl) (is_gd hh) (ok_joinRoads hh b3 (hG.ct 3) hRo hf) ?_
  rintro F1 ⟨j1, j2⟩
  have G1 : gv h F1 S := hG.fr (fun j k h1 _ _ => j2 j k h1)
  refine V_aload_0 d_gd_settle_4 ?_
  refine V_cvV0 d_gd_settle_5 ml_gd_79 mv_gd_sortByHour (by decide) (Nat.le_of_ble_eq_true rfl) (is_gd hh) (ok_sortByHour hh G1 hY) ?_
  rintro F2 ⟨k1, k2⟩
  have G2 : gv h F2 S := G1.fr (fun j k _ h2 _ => k2 j k (by omega))
  refine V_iconst 0 d_gd_settle_8 ?_
  refine V_istore_1 d_gd_settle_9 rfl ?_
  exact outer (S 1 4).toNat _ F2 _ (by omega) (by decide) G2 (fun a b a0 a1 b0' b1' => by rw [k2 _ _ (by omega)]; exact j1 a b a0 a1 b0' b1') k1 (fun k k0 k1 => by omega) (fun i k i0 i1 k0 k1 => by omega) (fun j k hj => by rw [k2 _ _ (by omega)]; exact j2 j k (by omega))
end SRT
