/-! the class: image, on -/
def ckN (t : Int → Int) : Nat → Int → Int → Int
  | 0, _, c => c
  | m + 1, i, c => ckN t m (i + 1) ((7 * c + t i) % 251)
def chk (t : Int → Int) (n : Int) : Int := ckN t n.toNat 0 73
def S_image (A : q_As) : Int := A 0 4 0 + 1
def A_image (A : q_As) : q_As := A_img A (A 0 4 0 + 1) (fun k => if k < A 0 4 0 then A 11 k 0 + 1 else chk (fun k => A 11 k 0 + 1) (A 0 4 0))
def allI : Nat → Int → (Int → Bool) → Bool
  | 0, _, _ => true
  | m + 1, i, p => p i && allI m (i + 1) p
def isImg (A : q_As) : Bool := decide (A 13 0 3 = A 0 4 0 + 1) && (decide (A 14 (A 0 4 0) 0 = chk (fun k => A 14 k 0) (A 0 4 0)) && allI (A 0 4 0).toNat 0 (fun s => decide (A 14 s 0 ≤ A 0 2 0) && (decide (A 14 s 0 ≤ 0) || allI (A 0 4 0).toNat 0 (fun t => !decide (A 14 t 0 = A 14 s 0) || can A s t))))
def S_on (A : q_As) : Int := if isImg A then 1 else 0
def A_on (A : q_As) : q_As := if isImg A then A_hs (A_tape A 0 (fun k => A 14 k 0)) 0 (fun s => A 14 s 0 - 1) (fun i j => A 12 i j) else A_tape A 0 (fun k => A 14 k 0)
section HS7
variable {D : q_D} {f f' : q_F} {A : q_As} {g h : Int}
theorem ckN_eq {t u : Int → Int} : ∀ (m : Nat) (i c : Int), (∀ k, i ≤ k → k < i + m → t k = u k) → ckN t m i c = ckN u m i c := by
  intro m
  induction m with
  | zero => intro i c _; rfl
  | succ m ih =>
    intro i c h
    unfold ckN
    rw [h i (by omega) (by omega)]
    exact ih _ _ (fun k a b => h k (by omega) (by omega))
theorem chk_eq {t u : Int → Int} {n : Int} (h : ∀ k, 0 ≤ k → k < n → t k = u k) : chk t n = chk u n := ckN_eq _ _ _ (fun k a b => h k a (by omega))
theorem ckN_rg {t : Int → Int} : ∀ (m : Nat) (i c : Int), (0 ≤ c ∧ c < 251) → 0 ≤ ckN t m i c ∧ ckN t m i c < 251 := by
  intro m
  induction m with
  | zero => intro i c h; exact h
  | succ m ih => intro i c h; unfold ckN; exact ih _ _ (by omega)
theorem chk_rg (t : Int → Int) (n : Int) : 0 ≤ chk t n ∧ chk t n < 251 := ckN_rg _ _ _ (by decide)
theorem allI_iff (p : Int → Bool) : ∀ (m : Nat) (i : Int), allI m i p = true ↔ ∀ j, i ≤ j → j < i + m → p j = true := by
  intro m
  induction m with
  | zero => intro i; unfold allI; simp; intro j a b; omega
  | succ m ih =>
    intro i
    unfold allI
    rw [Bool.and_eq_true, ih (i + 1)]
    constructor
    · rintro ⟨h1, h2⟩ j a b
      by_cases e : j = i
      · rw [e]; exact h1
      · exact h2 j (by omega) (by omega)
    · intro h
      exact ⟨h i (by omega) (by omega), fun j a b => h j (by omega) (by omega)⟩
/-- a tape is an image -/
def isImgP (A : q_As) : Prop := A 13 0 3 = A 0 4 0 + 1 ∧ A 14 (A 0 4 0) 0 = chk (fun k => A 14 k 0) (A 0 4 0) ∧ ∀ s, 0 ≤ s → s < A 0 4 0 → A 14 s 0 ≤ A 0 2 0 ∧ (0 < A 14 s 0 → ∀ t, 0 ≤ t → t < A 0 4 0 → A 14 t 0 = A 14 s 0 → can A s t = true)
theorem isImg_iff (hW : Wg A) : isImg A = true ↔ isImgP A := by
  have hn := hW.1
  unfold isImg isImgP
  rw [Bool.and_eq_true, Bool.and_eq_true, decide_eq_true_iff, decide_eq_true_iff, allI_iff]
  refine and_congr Iff.rfl (and_congr Iff.rfl ?_)
  constructor
  · intro h s s0 s1
    have h1 := h s s0 (by omega)
    rw [Bool.and_eq_true, decide_eq_true_iff, Bool.or_eq_true, decide_eq_true_iff, allI_iff] at h1
    refine ⟨h1.1, fun hp t t0 t1 e => ?_⟩
    rcases h1.2 with h2 | h2
    · omega
    · have := h2 t t0 (by omega)
      rw [decide_eq_true e] at this; simpa using this
  · intro h s s0 s1
    obtain ⟨h1, h2⟩ := h s s0 (by omega)
    rw [Bool.and_eq_true, decide_eq_true_iff, Bool.or_eq_true, decide_eq_true_iff, allI_iff]
    refine ⟨h1, ?_⟩
    by_cases hp : A 14 s 0 ≤ 0
    · exact Or.inl hp
    · refine Or.inr (fun t t0 t1 => ?_)
      by_cases e : A 14 t 0 = A 14 s 0
      · rw [h2 (by omega) t t0 (by omega) e]; simp
      · rw [decide_eq_false e]; rfl
theorem ok_checkByte {q n l : Int} (hq : q_ce 274 q 20 l) (hn : 0 ≤ n ∧ n ≤ l) (hl : l ≤ 2000) (hb : ∀ k, 0 ≤ k → k < n → 0 ≤ f q k ∧ f q k ≤ 1000) : OkI D m_hs_checkByte [vr D q, vi n] (Zg g h) f (fun x f' => x = chk (f q) n ∧ f' = f) := by
  refine OkI_of (L0 := [vr D q, vi n, vu, vu]) mi_hs_checkByte rfl rfl (Nat.le_of_ble_eq_true rfl) (fun C hR => ?_)
  have loop : ∀ (m : Nat) (i c : Int), i + m = n → 0 ≤ i → (0 ≤ c ∧ c < 251) → ckN (f q) m i c = chk (f q) n → V D C m_hs_checkByte 5 [vr D q, vi n, vi c, vi i] [] (Zg g h) f := by
    intro m
    induction m with
    | zero =>
      intro i c hm h0 hc hr
      refine V_iload_3 d_hs_checkByte_5 ?_
      refine V_iload_1 d_hs_checkByte_6 ?_
      refine V_icmp_ge 29 d_hs_checkByte_7 (by decide) (by omega) (by omega) (fun c7 => ?_) (fun c7 => by omega)
      refine V_iload_2 d_hs_checkByte_29 ?_
      refine V_ireturn d_hs_checkByte_30 (hR _ _ ?_)
      exact ⟨hr, rfl⟩
    | succ m ih =>
      intro i c hm h0 hc hr
      have hbi := hb i h0 (by omega)
      unfold ckN at hr
      refine V_iload_3 d_hs_checkByte_5 ?_
      refine V_iload_1 d_hs_checkByte_6 ?_
      refine V_icmp_ge 29 d_hs_checkByte_7 (by decide) (by omega) (by omega) (fun c7 => by omega) (fun c7 => ?_)
      refine V_bipush 7 d_hs_checkByte_10 (by decide) ?_
      refine V_iload_2 d_hs_checkByte_12 ?_
      refine V_imul d_hs_checkByte_13 ?_
      refine V_aload_0 d_hs_checkByte_14 ?_
      refine V_iload_3 d_hs_checkByte_15 ?_
      refine V_iald d_hs_checkByte_16 hq (by omega) (by omega) ?_
      refine V_iadd d_hs_checkByte_17 ?_
      refine V_sipush 251 d_hs_checkByte_18 (by decide) ?_
      refine V_irem d_hs_checkByte_21 (by omega) (by omega) ?_
      refine V_istore_2 d_hs_checkByte_22 rfl ?_
      refine V_iinc_3 d_hs_checkByte_23 rfl ?_
      refine V_goto 5 d_hs_checkByte_26 (by decide) ?_
      exact ih _ _ (by omega) (by omega) (by omega) hr
  refine V_bipush 73 d_hs_checkByte_0 (by decide) ?_
  refine V_istore_2 d_hs_checkByte_2 rfl ?_
  refine V_iconst 0 d_hs_checkByte_3 ?_
  refine V_istore_3 d_hs_checkByte_4 rfl ?_
  exact loop n.toNat _ _ (by omega) (by decide) (by decide) rfl
/-- another image -/
theorem Cst.img (hS : Cst g f A) (hF : Wf A) {n : Int} {t : Int → Int} (hf : ∀ j k, ¬ j = 50 → ¬ (j = 0 ∧ k = 6) → f' j k = f j k) (h1 : f' 0 6 = n) (h2 : ∀ k, 0 ≤ k → k < n → f' 50 k = t k) : Cst g f' (A_img A n t) := by
  obtain ⟨hg, hG, hH, hT⟩ := hS
  have hg2 := q_G51 hg
  refine ⟨hg, hG.mono (A_img_g n t) hF.1 (fun j k a b => hf j k (by omega) (by omega)), hH.mono rfl rfl rfl rfl (fun j k a b => hf j k (by omega) (by omega)), ?_⟩
  obtain ⟨c1, c2, c3, c4, c5, c6, c7⟩ := hT
  unfold Ct
  simp only [A_img_13, A_img_15, show ∀ i, A_img A n t 14 i 0 = A 14 i 0 from fun _ => rfl]
  exact ⟨by rw [hf _ _ (by omega) (by omega)]; exact c1, fun k a b => by rw [hf _ _ (by omega) (by omega)]; exact c2 k a b, by rw [hf _ _ (by omega) (by omega)]; exact c3, by rw [hf _ _ (by omega) (by omega)]; exact c4, by rw [hf _ _ (by omega) (by omega)]; exact c5, h1, h2⟩
theorem W_img (hF : Wf A) {n : Int} {t : Int → Int} (hn : 0 ≤ n ∧ n ≤ 25) (ht : ∀ k, 0 ≤ k → k < n → -2147483648 ≤ t k ∧ t k < 2147483648) : Wf (A_img A n t) := by
  obtain ⟨h1, h2, h3⟩ := hF
  refine ⟨h1.mono (A_img_g n t), h2.mono (A_img_g n t) rfl rfl rfl, ?_⟩
  unfold Wt
  simp only [A_img_13, A_img_15, show ∀ i, A_img A n t 14 i 0 = A 14 i 0 from fun _ => rfl]
  exact ⟨h3.1, h3.2.1, h3.2.2.1, h3.2.2.2.1, h3.2.2.2.2.1, hn, ht⟩
theorem W_image (hF : Wf A) : Wf (A_image A) := by
  have hn := hF.nn
  refine W_img hF (by omega) (fun k k0 k1 => ?_)
  split
  · have := hF.2.1.1 k k0 (by omega); omega
  · have := chk_rg (fun k => A 11 k 0 + 1) (A 0 4 0); omega
theorem hs_image (hS : Cst g f A) (hF : Wf A) : OkI D m_hs_image [vr D 0] (Zg g h) f (fun x f' => x = S_image A ∧ Cst g f' (A_image A) ∧ q_lo f f') := by
  have hn := hF.nn
  have hS' := hS
  obtain ⟨hg, hG, hH, hT⟩ := hS'
  have e4 := hG.c4
  have hg2 := q_G51 hg
  refine OkI_of (L0 := [vr D 0, vu, vu]) mi_hs_image rfl rfl (Nat.le_of_ble_eq_true rfl) (fun C hR => ?_)
  have loop : ∀ (m : Nat) (i : Int) (F : q_F), i + m = A 0 4 0 → 0 ≤ i → (∀ j k, ¬ j = 50 → F j k = f j k) → (∀ k, 0 ≤ k → k < i → F 50 k = A 11 k 0 + 1) → V D C m_hs_image 12 [vr D 0, vi (A 0 4 0), vi i] [] (Zg g h) F := by
    intro m
    induction m with
    | zero =>
      intro i F hm h0 hf hb
      have ei : i = A 0 4 0 := by omega
      subst ei
      have hck : chk (F 50) (A 0 4 0) = chk (fun k => A 11 k 0 + 1) (A 0 4 0) := chk_eq hb
      refine V_iload_2 d_hs_image_12 ?_
      refine V_iload_1 d_hs_image_13 ?_
      refine V_icmp_ge 40 d_hs_image_14 (by decide) (by omega) (by omega) (fun c14 => ?_) (fun c14 => by omega)
      refine V_aload_0 d_hs_image_40 ?_
      refine V_getR d_hs_image_41 fl_hs_46 is_hs r_hs_image ?_
      refine V_iload_1 d_hs_image_44 ?_
      refine V_aload_0 d_hs_image_45 ?_
      refine V_getR d_hs_image_46 fl_hs_46 is_hs r_hs_image ?_
      refine V_iload_1 d_hs_image_49 ?_
      refine V_csI2 d_hs_image_50 ml_hs_261 ms_hs_checkByte (by decide) (Nat.le_of_ble_eq_true rfl) (ok_checkByte is_hs_image (by omega) (by decide) (fun k k0 k1 => by rw [hb k k0 k1]; have := hF.2.1.1 k k0 k1; omega)) ?_
      rintro _ f2 ⟨rfl, e2⟩
      rw [e2]; clear e2 f2
      refine V_iast d_hs_image_53 is_hs_image (by omega) (by omega) ?_
      refine V_aload_0 d_hs_image_54 ?_
      refine V_iload_1 d_hs_image_55 ?_
      refine V_iconst 1 d_hs_image_56 ?_
      refine V_iadd d_hs_image_57 ?_
      refine V_putI d_hs_image_58 fl_hs_265 is_hs ?_
      refine V_aload_0 d_hs_image_61 ?_
      refine V_getI d_hs_image_62 fl_hs_265 is_hs ?_
      rw [q_up_eq]
      refine V_ireturn d_hs_image_65 (hR _ _ ?_)
      refine ⟨rfl, ?_, fun j k hj => ?_⟩
      · refine hS.img hF (fun j k h1 h2 => ?_) ?_ (fun k k0 k1 => ?_)
        · rw [q_up_ne (by omega), q_up_at h1]; exact hf j k h1
        · rw [q_up_eq]
        · rw [q_up_at (by decide)]
          by_cases e : k < A 0 4 0
          · rw [if_pos e, q_up_ne (Or.inr (by omega))]; exact hb k k0 e
          · rw [if_neg e, q_up_is (by omega)]; exact hck
      · rw [q_up_at (by omega), q_up_at (by omega)]; exact hf j k (by omega)
    | succ m ih =>
      intro i F hm h0 hf hb
      obtain ⟨e11, b11⟩ := hH.at hF.2.1 h0 (by omega)
      refine V_iload_2 d_hs_image_12 ?_
      refine V_iload_1 d_hs_image_13 ?_
      refine V_icmp_ge 40 d_hs_image_14 (by decide) (by omega) (by omega) (fun c14 => by omega) (fun c14 => ?_)
      refine V_aload_0 d_hs_image_17 ?_
      refine V_getR d_hs_image_18 fl_hs_46 is_hs r_hs_image ?_
      refine V_iload_2 d_hs_image_21 ?_
      refine V_aload_0 d_hs_image_22 ?_
      refine V_getR d_hs_image_23 fl_hs_28 is_hs r_hs_hires ?_
      refine V_getR d_hs_image_26 fl_hs_143 is_hi r_hi_shadeOf ?_
      refine V_iload_2 d_hs_image_29 ?_
      refine V_iald d_hs_image_30 is_hi_shadeOf (by omega) (by omega) ?_
      rw [hf _ _ (by decide), e11]
      refine V_iconst 1 d_hs_image_31 ?_
      refine V_iadd d_hs_image_32 ?_
      refine V_iast d_hs_image_33 is_hs_image (by omega) (by omega) ?_
      refine V_iinc_2 d_hs_image_34 rfl ?_
      refine V_goto 12 d_hs_image_37 (by decide) ?_
      refine ih _ _ (by omega) (by omega) (fun j k hj => by rw [q_up_at hj]; exact hf j k hj) (fun k k0 k1 => ?_)
      by_cases e : k = i
      · rw [q_up_is e, e]
      · rw [q_up_ne (Or.inr e)]; exact hb k k0 (by omega)
  refine V_aload_0 d_hs_image_0 ?_
  refine V_getR d_hs_image_1 fl_hs_57 is_hs (r_hs_now hg) ?_
  refine V_getR d_hs_image_4 fl_hs_90 (is_gd hg) (r_gd_counts hg) ?_
  refine V_iconst 4 d_hs_image_7 ?_
  refine V_iald d_hs_image_8 (is_gd_counts hg) (by omega) (by omega) ?_
  rw [e4]
  refine V_istore_1 d_hs_image_9 rfl ?_
  refine V_iconst 0 d_hs_image_10 ?_
  refine V_istore_2 d_hs_image_11 rfl ?_
  exact loop (A 0 4 0).toNat _ f (by omega) (by decide) (fun _ _ _ => rfl) (fun k a b => by omega)
theorem ok_meetsAllTold (hS : Cst g f A) (hF : Wf A) {s : Int} (hs : 0 ≤ s ∧ s < A 0 4 0) (hl : A 0 4 0 < A 13 0 3) : OkI D m_hs_meetsAllTold [vr D 0, vi s, vi (A 0 4 0)] (Zg g h) f (fun x f' => ((x = 1 ∧ ∀ t, 0 ≤ t → t < A 0 4 0 → A 14 t 0 = A 14 s 0 → can A s t = true) ∨ (x = 0 ∧ ¬ ∀ t, 0 ≤ t → t < A 0 4 0 → A 14 t 0 = A 14 s 0 → can A s t = true)) ∧ f' = f) := by
  have hn := hF.nn
  have hS' := hS
  obtain ⟨hg, hG, hH, hT⟩ := hS'
  have em := hG.mt hs.1 hs.2
  have es := hT.2.1 s hs.1 (by omega)
  have bs := hF.2.2.2.1 s hs.1 (by omega)
  refine OkB_of (L0 := [vr D 0, vi s, vi (A 0 4 0), vu, vu]) mi_hs_meetsAllTold rfl rfl (Nat.le_of_ble_eq_true rfl) (fun C hR => ?_)
  have loop : ∀ (m : Nat) (i : Int) (a4 : Value), i + m = A 0 4 0 → 0 ≤ i → (∀ t, 0 ≤ t → t < i → A 14 t 0 = A 14 s 0 → can A s t = true) → V D C m_hs_meetsAllTold 2 [vr D 0, vi s, vi (A 0 4 0), vi i, a4] [] (Zg g h) f := by
    intro m
    induction m with
    | zero =>
      intro i a4 hm h0 hi
      refine V_iload_3 d_hs_meetsAllTold_2 ?_
      refine V_iload_2 d_hs_meetsAllTold_3 ?_
      refine V_icmp_ge 64 d_hs_meetsAllTold_4 (by decide) (by omega) (by omega) (fun c4 => ?_) (fun c4 => by omega)
      refine V_iconst 1 d_hs_meetsAllTold_64 ?_
      refine V_ireturn d_hs_meetsAllTold_65 (hR _ _ (by decide) ?_)
      exact ⟨Or.inl ⟨rfl, fun t t0 t1 => hi t t0 (by omega)⟩, rfl⟩
    | succ m ih =>
      intro i a4 hm h0 hi
      have ei := hT.2.1 i h0 (by omega)
      have bi := hF.2.2.2.1 i h0 (by omega)
      have hbit : ∀ b, (decide (i < A 0 4 0) && can A s i) = b → can A s i = b := fun b hb => by rw [decide_eq_true (by omega)] at hb; exact hb
      refine V_iload_3 d_hs_meetsAllTold_2 ?_
      refine V_iload_2 d_hs_meetsAllTold_3 ?_
      refine V_icmp_ge 64 d_hs_meetsAllTold_4 (by decide) (by omega) (by omega) (fun c4 => by omega) (fun c4 => ?_)
      refine V_aload_0 d_hs_meetsAllTold_7 ?_
      refine V_getR d_hs_meetsAllTold_8 fl_hs_10 is_hs r_hs_tape ?_
      refine V_getR d_hs_meetsAllTold_11 fl_hs_271 is_tp r_tp_bytes ?_
      refine V_iload_3 d_hs_meetsAllTold_14 ?_
      refine V_iald d_hs_meetsAllTold_15 is_tp_bytes (by omega) (by omega) ?_
      rw [ei]
      refine V_aload_0 d_hs_meetsAllTold_16 ?_
      refine V_getR d_hs_meetsAllTold_17 fl_hs_10 is_hs r_hs_tape ?_
      refine V_getR d_hs_meetsAllTold_20 fl_hs_271 is_tp r_tp_bytes ?_
      refine V_iload_1 d_hs_meetsAllTold_23 ?_
      refine V_iald d_hs_meetsAllTold_24 is_tp_bytes (by omega) (by omega) ?_
      rw [es]
      refine V_icmp_ne 32 d_hs_meetsAllTold_25 (by decide) (by omega) (by omega) (fun c25 => ?_) (fun c25 => ?_)
      · skip
        refine V_iconst 0 d_hs_meetsAllTold_32 ?_
        refine V_istore_4 d_hs_meetsAllTold_33 rfl ?_
        refine V_iload_4 d_hs_meetsAllTold_35 ?_
        refine V_if_eq 58 d_hs_meetsAllTold_37 (by decide) (by omega) (fun c37 => ?_) (fun c37 => by omega)
        refine V_iinc_3 d_hs_meetsAllTold_58 rfl ?_
        refine V_goto 2 d_hs_meetsAllTold_61 (by decide) ?_
        refine ih _ _ (by omega) (by omega) (fun t t0 t1 e => ?_)
        by_cases e2 : t = i
        · exact absurd (by rw [← e2]; exact e) c25
        · exact hi t t0 (by omega) e
      · skip
        refine V_iconst 1 d_hs_meetsAllTold_28 ?_
        refine V_goto 33 d_hs_meetsAllTold_29 (by decide) ?_
        refine V_istore_4 d_hs_meetsAllTold_33 rfl ?_
        refine V_iload_4 d_hs_meetsAllTold_35 ?_
        refine V_if_eq 58 d_hs_meetsAllTold_37 (by decide) (by omega) (fun c37 => by omega) (fun c37 => ?_)
        refine V_aload_0 d_hs_meetsAllTold_40 ?_
        refine V_getR d_hs_meetsAllTold_41 fl_hs_57 is_hs (r_hs_now hg) ?_
        refine V_getR d_hs_meetsAllTold_44 fl_hs_171 (is_gd hg) (r_gd_meets hg) ?_
        refine V_iload_1 d_hs_meetsAllTold_47 ?_
        refine V_iald d_hs_meetsAllTold_48 (is_gd_meets hg) (by omega) (by omega) ?_
        rw [em]
        refine V_iload_3 d_hs_meetsAllTold_49 ?_
        refine V_ishr d_hs_meetsAllTold_50 ?_
        refine V_iconst 1 d_hs_meetsAllTold_51 ?_
        refine V_iand d_hs_meetsAllTold_52 ?_
        refine V_if_ne 58 d_hs_meetsAllTold_53 (by decide) (mB_shrrg _ _) (fun c53 => ?_) (fun c53 => ?_)
        · skip
          rw [mB_bf _ (by omega)] at c53
          refine V_iinc_3 d_hs_meetsAllTold_58 rfl ?_
          refine V_goto 2 d_hs_meetsAllTold_61 (by decide) ?_
          refine ih _ _ (by omega) (by omega) (fun t t0 t1 e => ?_)
          by_cases e2 : t = i
          · rw [e2]; exact hbit _ c53
          · exact hi t t0 (by omega) e
        · skip
          rw [mB_bt _ (by omega)] at c53
          refine V_iconst 0 d_hs_meetsAllTold_56 ?_
          refine V_ireturn d_hs_meetsAllTold_57 (hR _ _ (by decide) ?_)
          refine ⟨Or.inr ⟨rfl, fun hh => ?_⟩, rfl⟩
          have h1 := hh i h0 (by omega) (by omega)
          rw [hbit _ c53] at h1; cases h1
  refine V_iconst 0 d_hs_meetsAllTold_0 ?_
  refine V_istore_3 d_hs_meetsAllTold_1 rfl ?_
  exact loop (A 0 4 0).toNat _ _ (by omega) (by decide) (fun t a b => by omega)
theorem ok_isImage (hS : Cst g f A) (hF : Wf A) : OkI D m_hs_isImage [vr D 0] (Zg g h) f (fun x f' => ((x = 1 ∧ isImgP A) ∨ (x = 0 ∧ ¬ isImgP A)) ∧ f' = f) := by
  have hn := hF.nn
  have hS' := hS
  obtain ⟨hg, hG, hH, hT⟩ := hS'
  have e4 := hG.c4
  have e2 := hG.1 2 (by decide) (by decide)
  have el := hT.1
  have bl := hF.2.2.1
  refine OkB_of (L0 := [vr D 0, vu, vu, vu]) mi_hs_isImage rfl rfl (Nat.le_of_ble_eq_true rfl) (fun C hR => ?_)
  have loop : ∀ (m : Nat) (i : Int) (a3 : Value), i + m = A 0 4 0 → 0 ≤ i → A 13 0 3 = A 0 4 0 + 1 → A 14 (A 0 4 0) 0 = chk (fun k => A 14 k 0) (A 0 4 0) → (∀ s, 0 ≤ s → s < i → A 14 s 0 ≤ A 0 2 0 ∧ (0 < A 14 s 0 → ∀ t, 0 ≤ t → t < A 0 4 0 → A 14 t 0 = A 14 s 0 → can A s t = true)) → V D C m_hs_isImage 50 [vr D 0, vi (A 0 4 0), vi i, a3] [] (Zg g h) f := by
    intro m
    induction m with
    | zero =>
      intro i a3 hm h0 h1 h2 hi
      refine V_iload_2 d_hs_isImage_50 ?_
      refine V_iload_1 d_hs_isImage_51 ?_
      refine V_icmp_ge 99 d_hs_isImage_52 (by decide) (by omega) (by omega) (fun c52 => ?_) (fun c52 => by omega)
      refine V_iconst 1 d_hs_isImage_99 ?_
      refine V_ireturn d_hs_isImage_100 (hR _ _ (by decide) ?_)
      exact ⟨Or.inl ⟨rfl, h1, h2, fun s s0 s1 => hi s s0 (by omega)⟩, rfl⟩
    | succ m ih =>
      intro i a3 hm h0 h1 h2 hi
      have ei := hT.2.1 i h0 (by omega)
      have bi := hF.2.2.2.1 i h0 (by omega)
      refine V_iload_2 d_hs_isImage_50 ?_
      refine V_iload_1 d_hs_isImage_51 ?_
      refine V_icmp_ge 99 d_hs_isImage_52 (by decide) (by omega) (by omega) (fun c52 => by omega) (fun c52 => ?_)
      refine V_aload_0 d_hs_isImage_55 ?_
      refine V_getR d_hs_isImage_56 fl_hs_10 is_hs r_hs_tape ?_
      refine V_getR d_hs_isImage_59 fl_hs_271 is_tp r_tp_bytes ?_
      refine V_iload_2 d_hs_isImage_62 ?_
      refine V_iald d_hs_isImage_63 is_tp_bytes (by omega) (by omega) ?_
      rw [ei]
      refine V_istore_3 d_hs_isImage_64 rfl ?_
      refine V_iload_3 d_hs_isImage_65 ?_
      refine V_aload_0 d_hs_isImage_66 ?_
      refine V_getR d_hs_isImage_67 fl_hs_57 is_hs (r_hs_now hg) ?_
      refine V_getR d_hs_isImage_70 fl_hs_90 (is_gd hg) (r_gd_counts hg) ?_
      refine V_iconst 2 d_hs_isImage_73 ?_
      refine V_iald d_hs_isImage_74 (is_gd_counts hg) (by omega) (by omega) ?_
      rw [e2]
      refine V_icmp_gt 91 d_hs_isImage_75 (by decide) (by omega) (by omega) (fun c75 => ?_) (fun c75 => ?_)
      · skip
        refine V_iconst 0 d_hs_isImage_91 ?_
        refine V_ireturn d_hs_isImage_92 (hR _ _ (by decide) ?_)
        refine ⟨Or.inr ⟨rfl, fun hp => ?_⟩, rfl⟩
        have h3 := hp.2.2 i h0 (by omega)
        first | (have := h3.1; omega) | exact q_b0 hx85 c88 (h3.2 (by omega))
      · skip
        refine V_iload_3 d_hs_isImage_78 ?_
        refine V_if_le 93 d_hs_isImage_79 (by decide) (by omega) (fun c79 => ?_) (fun c79 => ?_)
        · skip
          refine V_iinc_2 d_hs_isImage_93 rfl ?_
          refine V_goto 50 d_hs_isImage_96 (by decide) ?_
          refine ih _ _ (by omega) (by omega) h1 h2 (fun s s0 s1 => ?_)
          by_cases e : s = i
          · rw [e]; exact ⟨by omega, fun hh => by omega⟩
          · exact hi s s0 (by omega)
        · skip
          refine V_aload_0 d_hs_isImage_82 ?_
          refine V_iload_2 d_hs_isImage_83 ?_
          refine V_iload_1 d_hs_isImage_84 ?_
          refine V_cvI2 d_hs_isImage_85 ml_hs_274 mv_hs_meetsAllTold (by decide) (Nat.le_of_ble_eq_true rfl) is_hs (ok_meetsAllTold hS hF ⟨h0, by omega⟩ (by omega)) ?_
          rintro x85 f2 ⟨hx85, e2⟩
          rw [e2]; clear e2 f2
          refine V_if_ne 93 d_hs_isImage_88 (by decide) (by omega) (fun c88 => ?_) (fun c88 => ?_)
          · skip
            refine V_iinc_2 d_hs_isImage_93 rfl ?_
            refine V_goto 50 d_hs_isImage_96 (by decide) ?_
            refine ih _ _ (by omega) (by omega) h1 h2 (fun s s0 s1 => ?_)
            by_cases e : s = i
            · rw [e]; exact ⟨by omega, fun _ => q_b1 hx85 c88⟩
            · exact hi s s0 (by omega)
          · skip
            refine V_iconst 0 d_hs_isImage_91 ?_
            refine V_ireturn d_hs_isImage_92 (hR _ _ (by decide) ?_)
            refine ⟨Or.inr ⟨rfl, fun hp => ?_⟩, rfl⟩
            have h3 := hp.2.2 i h0 (by omega)
            first | (have := h3.1; omega) | exact q_b0 hx85 c88 (h3.2 (by omega))
  have hck : A 13 0 3 = A 0 4 0 + 1 → chk (f 2) (A 0 4 0) = chk (fun k => A 14 k 0) (A 0 4 0) := fun e => chk_eq (fun k k0 k1 => hT.2.1 k k0 (by omega))
  have hcr := chk_rg (fun k => A 14 k 0) (A 0 4 0)
  refine V_aload_0 d_hs_isImage_0 ?_
  refine V_getR d_hs_isImage_1 fl_hs_57 is_hs (r_hs_now hg) ?_
  refine V_getR d_hs_isImage_4 fl_hs_90 (is_gd hg) (r_gd_counts hg) ?_
  refine V_iconst 4 d_hs_isImage_7 ?_
  refine V_iald d_hs_isImage_8 (is_gd_counts hg) (by omega) (by omega) ?_
  rw [e4]
  refine V_istore_1 d_hs_isImage_9 rfl ?_
  refine V_aload_0 d_hs_isImage_10 ?_
  refine V_getR d_hs_isImage_11 fl_hs_10 is_hs r_hs_tape ?_
  refine V_getI d_hs_isImage_14 fl_hs_64 is_tp ?_
  rw [el]
  refine V_iload_1 d_hs_isImage_17 ?_
  refine V_iconst 1 d_hs_isImage_18 ?_
  refine V_iadd d_hs_isImage_19 ?_
  refine V_icmp_ne 46 d_hs_isImage_20 (by decide) (by omega) (by omega) (fun c20 => ?_) (fun c20 => ?_)
  · skip
    refine V_iconst 0 d_hs_isImage_46 ?_
    refine V_ireturn d_hs_isImage_47 (hR _ _ (by decide) ?_)
    refine ⟨Or.inr ⟨rfl, fun hp => ?_⟩, rfl⟩
    first | exact c20 hp.1 | exact c43 hp.2.1
  · skip
    have hb := hF.2.2.2.1 (A 0 4 0) (by omega) (by omega)
    have hbe := hT.2.1 (A 0 4 0) (by omega) (by omega)
    refine V_aload_0 d_hs_isImage_23 ?_
    refine V_getR d_hs_isImage_24 fl_hs_10 is_hs r_hs_tape ?_
    refine V_getR d_hs_isImage_27 fl_hs_271 is_tp r_tp_bytes ?_
    refine V_iload_1 d_hs_isImage_30 ?_
    refine V_iald d_hs_isImage_31 is_tp_bytes (by omega) (by omega) ?_
    rw [hbe]
    refine V_aload_0 d_hs_isImage_32 ?_
    refine V_getR d_hs_isImage_33 fl_hs_10 is_hs r_hs_tape ?_
    refine V_getR d_hs_isImage_36 fl_hs_271 is_tp r_tp_bytes ?_
    refine V_iload_1 d_hs_isImage_39 ?_
    refine V_csI2 d_hs_isImage_40 ml_hs_261 ms_hs_checkByte (by decide) (Nat.le_of_ble_eq_true rfl) (ok_checkByte is_tp_bytes (by omega) (by decide) (fun k k0 k1 => by rw [hT.2.1 k k0 (by omega)]; have := hF.2.2.2.1 k k0 (by omega); omega)) ?_
    rintro _ f2 ⟨rfl, e2⟩
    rw [e2]; clear e2 f2
    rw [hck (by omega)]
    refine V_icmp_eq 48 d_hs_isImage_43 (by decide) (by omega) (by omega) (fun c43 => ?_) (fun c43 => ?_)
    · skip
      refine V_iconst 0 d_hs_isImage_48 ?_
      refine V_istore_2 d_hs_isImage_49 rfl ?_
      exact loop (A 0 4 0).toNat _ _ (by omega) (by decide) (by omega) (by omega) (fun t a b => by omega)
    · skip
      refine V_iconst 0 d_hs_isImage_46 ?_
      refine V_ireturn d_hs_isImage_47 (hR _ _ (by decide) ?_)
      refine ⟨Or.inr ⟨rfl, fun hp => ?_⟩, rfl⟩
      first | exact c20 hp.1 | exact c43 hp.2.1
theorem ok_clear : OkV D m_hi_clear [vr D 10] (Zg g h) f (fun f' => (∀ j k, ¬ (j = 10 ∧ k = 3) → ¬ j = 11 → f' j k = f j k) ∧ f' 10 3 = 0 ∧ ∀ s, 0 ≤ s → s < 24 → f' 11 s = -1) := by
  refine OkV_of (L0 := [vr D 10, vu]) mi_hi_clear rfl rfl (Nat.le_of_ble_eq_true rfl) (fun C hR => ?_)
  have loop : ∀ (m : Nat) (i : Int) (F : q_F), i + m = 24 → 0 ≤ i → (∀ j k, ¬ (j = 10 ∧ k = 3) → ¬ j = 11 → F j k = f j k) → F 10 3 = 0 → (∀ s, 0 ≤ s → s < i → F 11 s = -1) → V D C m_hi_clear 7 [vr D 10, vi i] [] (Zg g h) F := by
    intro m
    induction m with
    | zero =>
      intro i F hm h0 h1 h2 h3
      refine V_iload_1 d_hi_clear_7 ?_
      refine V_bipush 24 d_hi_clear_8 (by decide) ?_
      refine V_icmp_ge 26 d_hi_clear_10 (by decide) (by omega) (by omega) (fun c10 => ?_) (fun c10 => by omega)
      refine V_return d_hi_clear_26 (hR _ ?_)
      exact ⟨h1, h2, fun s s0 s1 => h3 s s0 (by omega)⟩
    | succ m ih =>
      intro i F hm h0 h1 h2 h3
      refine V_iload_1 d_hi_clear_7 ?_
      refine V_bipush 24 d_hi_clear_8 (by decide) ?_
      refine V_icmp_ge 26 d_hi_clear_10 (by decide) (by omega) (by omega) (fun c10 => by omega) (fun c10 => ?_)
      refine V_aload_0 d_hi_clear_13 ?_
      refine V_getR d_hi_clear_14 fl_hi_9 is_hi r_hi_shadeOf ?_
      refine V_iload_1 d_hi_clear_17 ?_
      refine V_iconst (-1) d_hi_clear_18 ?_
      refine V_iast d_hi_clear_19 is_hi_shadeOf (by omega) (by omega) ?_
      refine V_iinc_1 d_hi_clear_20 rfl ?_
      refine V_goto 7 d_hi_clear_23 (by decide) ?_
      refine ih _ _ (by omega) (by omega) (fun j k a b => by rw [q_up_at b]; exact h1 j k a b) (by rw [q_up_at (by decide)]; exact h2) (fun s s0 s1 => ?_)
      by_cases e : s = i
      · rw [q_up_is e]
      · rw [q_up_ne (Or.inr e)]; exact h3 s s0 (by omega)
  refine V_aload_0 d_hi_clear_0 ?_
  refine V_iconst 0 d_hi_clear_1 ?_
  refine V_putI d_hi_clear_2 fl_hi_23 is_hi ?_
  refine V_iconst 0 d_hi_clear_5 ?_
  refine V_istore_1 d_hi_clear_6 rfl ?_
  exact loop 24 _ _ (by decide) (by decide) (fun j k a b => q_up_ne (by omega)) (q_up_eq _ _ _ _) (fun s a b => by omega)
theorem W_on (hF : Wf A) : Wf (A_on A) := by
  have hn := hF.nn
  have hW0 : Wf (A_tape A 0 (fun k => A 14 k 0)) := W_tape hF (by decide) (fun k a b => by omega)
  unfold A_on
  split
  · next hi =>
    have hp := (isImg_iff hF.1).mp hi
    refine W_hs hW0 (by decide) ⟨fun s s0 s1 => ?_, fun s u s0 s1 u0 u1 e e0 => ?_⟩ (fun i a b => by omega)
    · have h1 := (hp.2.2 s s0 s1).1
      have h2 := hF.2.2.2.1 s s0 (by have := hp.1; have : s < A 0 4 0 := s1; omega)
      have : A_tape A 0 (fun k => A 14 k 0) 0 2 0 = A 0 2 0 := rfl
      dsimp only
      omega
    · dsimp only at e e0
      have := (hp.2.2 s s0 s1).2 (by omega) u u0 u1 (by omega)
      exact this
  · exact hW0
theorem hs_on (hS : Cst g f A) (hF : Wf A) : OkI D m_hs_on [vr D 0] (Zg g h) f (fun x f' => x = S_on A ∧ Cst g f' (A_on A) ∧ q_lo f f') := by
  have hn := hF.nn
  have hS' := hS
  obtain ⟨hg, hG, hH, hT⟩ := hS'
  have hg2 := q_G51 hg
  have e4 := hG.c4
  have hW0 : Wf (A_tape A 0 (fun k => A 14 k 0)) := W_tape hF (by decide) (fun k a b => by omega)
  have hS0 : Cst g (q_up f 1 1 0) (A_tape A 0 (fun k => A 14 k 0)) := hS.tape hF (fun j k a b => q_up_ne (by omega)) (q_up_eq _ _ _ _) (fun k a b => by omega)
  refine OkB_of (L0 := [vr D 0, vu, vu]) mi_hs_on rfl rfl (Nat.le_of_ble_eq_true rfl) (fun C hR => ?_)
  have loop : ∀ (m : Nat) (i x : Int) (F : q_F), isImgP A → i + m = A 0 4 0 → 0 ≤ i → (∀ j k, ¬ (j = 1 ∧ k = 1) → ¬ (j = 10 ∧ k = 3) → ¬ j = 11 → F j k = f j k) → F 1 1 = 0 → F 10 3 = 0 → (∀ s, 0 ≤ s → s < i → F 11 s = A 14 s 0 - 1) → V D C m_hs_on 28 [vr D 0, vi x, vi i] [] (Zg g h) F := by
    intro m
    induction m with
    | zero =>
      intro i x F hp hm h0 hf h1 h3 hb
      have e4' : F (g + 1) 4 = A 0 4 0 := by rw [hf _ _ (by omega) (by omega) (by omega)]; exact e4
      refine V_iload_2 d_hs_on_28 ?_
      refine V_aload_0 d_hs_on_29 ?_
      refine V_getR d_hs_on_30 fl_hs_57 is_hs (r_hs_now hg) ?_
      refine V_getR d_hs_on_33 fl_hs_90 (is_gd hg) (r_gd_counts hg) ?_
      refine V_iconst 4 d_hs_on_36 ?_
      refine V_iald d_hs_on_37 (is_gd_counts hg) (by omega) (by omega) ?_
      rw [e4']
      refine V_icmp_ge 67 d_hs_on_38 (by decide) (by omega) (by omega) (fun c38 => ?_) (fun c38 => by omega)
      refine V_iconst 1 d_hs_on_67 ?_
      refine V_ireturn d_hs_on_68 (hR _ _ (by decide) ?_)
      have hi := (isImg_iff hF.1).mpr hp
      unfold S_on A_on; rw [if_pos hi, if_pos hi]
      refine ⟨rfl, hS0.hires hW0 (fun j k hj => ?_) (fun s s0 s1 => hb s s0 ?_) h3 ?_ (fun i s a b => by omega), fun j k hj => hf j k (by omega) (by omega) (by omega)⟩
      · by_cases e : j = 1 ∧ k = 1
        · rw [e.1, e.2, h1, q_up_eq]
        · rw [q_up_ne (by omega)]; exact hf j k e (by omega) (by omega)
      · have : s < A 0 4 0 := s1
        omega
      · rw [hf _ _ (by decide) (by decide) (by decide)]; exact hH.2.2.1
    | succ m ih =>
      intro i x F hp hm h0 hf h1 h3 hb
      have hl := hp.1
      have e4' : F (g + 1) 4 = A 0 4 0 := by rw [hf _ _ (by omega) (by omega) (by omega)]; exact e4
      have ei : F 2 i = A 14 i 0 := by rw [hf _ _ (by omega) (by omega) (by omega)]; exact hT.2.1 i h0 (by omega)
      refine V_iload_2 d_hs_on_28 ?_
      refine V_aload_0 d_hs_on_29 ?_
      refine V_getR d_hs_on_30 fl_hs_57 is_hs (r_hs_now hg) ?_
      refine V_getR d_hs_on_33 fl_hs_90 (is_gd hg) (r_gd_counts hg) ?_
      refine V_iconst 4 d_hs_on_36 ?_
      refine V_iald d_hs_on_37 (is_gd_counts hg) (by omega) (by omega) ?_
      rw [e4']
      refine V_icmp_ge 67 d_hs_on_38 (by decide) (by omega) (by omega) (fun c38 => by omega) (fun c38 => ?_)
      refine V_aload_0 d_hs_on_41 ?_
      refine V_getR d_hs_on_42 fl_hs_28 is_hs r_hs_hires ?_
      refine V_getR d_hs_on_45 fl_hs_143 is_hi r_hi_shadeOf ?_
      refine V_iload_2 d_hs_on_48 ?_
      refine V_aload_0 d_hs_on_49 ?_
      refine V_getR d_hs_on_50 fl_hs_10 is_hs r_hs_tape ?_
      refine V_getR d_hs_on_53 fl_hs_271 is_tp r_tp_bytes ?_
      refine V_iload_2 d_hs_on_56 ?_
      refine V_iald d_hs_on_57 is_tp_bytes (by omega) (by omega) ?_
      rw [ei]
      refine V_iconst 1 d_hs_on_58 ?_
      refine V_isub d_hs_on_59 ?_
      refine V_iast d_hs_on_60 is_hi_shadeOf (by omega) (by omega) ?_
      refine V_iinc_2 d_hs_on_61 rfl ?_
      refine V_goto 28 d_hs_on_64 (by decide) ?_
      refine ih _ _ _ hp (by omega) (by omega) (fun j k a b c => by rw [q_up_at c]; exact hf j k a b c) (by rw [q_up_at (by decide)]; exact h1) (by rw [q_up_at (by decide)]; exact h3) (fun s s0 s1 => ?_)
      by_cases e : s = i
      · rw [q_up_is e, e]
      · rw [q_up_ne (Or.inr e)]; exact hb s s0 (by omega)
  refine V_aload_0 d_hs_on_0 ?_
  refine V_cvI0 d_hs_on_1 ml_hs_268 mv_hs_isImage (by decide) (Nat.le_of_ble_eq_true rfl) is_hs (ok_isImage hS hF) ?_
  rintro x1 f2 ⟨hx1, e2⟩
  rw [e2]; clear e2 f2
  refine V_istore_1 d_hs_on_4 rfl ?_
  refine V_aload_0 d_hs_on_5 ?_
  refine V_getR d_hs_on_6 fl_hs_10 is_hs r_hs_tape ?_
  refine V_iconst 0 d_hs_on_9 ?_
  refine V_putI d_hs_on_10 fl_hs_64 is_tp ?_
  refine V_iload_1 d_hs_on_13 ?_
  refine V_if_ne 19 d_hs_on_14 (by decide) (by omega) (fun c14 => ?_) (fun c14 => ?_)
  · skip
    refine V_aload_0 d_hs_on_19 ?_
    refine V_getR d_hs_on_20 fl_hs_28 is_hs r_hs_hires ?_
    refine V_cvV0 d_hs_on_23 ml_hs_78 mv_hi_clear (by decide) (Nat.le_of_ble_eq_true rfl) is_hi (ok_clear) ?_
    rintro F ⟨k1, k2, k3⟩
    refine V_iconst 0 d_hs_on_26 ?_
    refine V_istore_2 d_hs_on_27 rfl ?_
    refine loop (A 0 4 0).toNat _ _ F (q_b1 hx1 (by omega)) (by omega) (by decide) (fun j k a b c => by rw [k1 j k b c, q_up_ne (by omega)]) (by rw [k1 _ _ (by decide) (by decide), q_up_eq]) k2 (fun s a b => by omega)
  · skip
    refine V_iconst 0 d_hs_on_17 ?_
    refine V_ireturn d_hs_on_18 (hR _ _ (by decide) ?_)
    have hi : ¬ isImg A = true := fun e => q_b0 hx1 (by omega) ((isImg_iff hF.1).mp e)
    unfold S_on A_on; rw [if_neg hi, if_neg hi]
    exact ⟨rfl, hS0, fun j k hj => q_up_at (by omega)⟩
end HS7
