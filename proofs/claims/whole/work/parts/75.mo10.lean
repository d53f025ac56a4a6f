/-! the reference: which body has what -/
def anyI : Nat → (Int → Bool) → Bool
  | 0, _ => false
  | m + 1, p => p m || anyI m p
/-- a body's number in the reference's row (nH: the person), in a row of ours (9) -/
def bdy (A : q_As) (b : Int) : Int := if b < A 0 2 0 then b else 9
/-- what a shade has, with the first i of a row -/
def hsS (A : q_As) (c : Int → Int) (a : Int → Int) (i : Nat) (b : Int) : Int → Bool := fun t => held A b t || anyI i (fun j => decide (a j = b) && decide (t = c j))
/-- what a person has of the first i of a row -/
def hsP (A : q_As) (c : Int → Int) (a : Int → Int) (i : Nat) (q : Int) : Int → Bool := fun t => anyI i (fun j => (decide (a j = 9) && decide (A 7 (c j) 0 = q)) && decide (t = c j))
section MO10
variable {D : q_D} {f f' : q_F} {A : q_As} {g h : Int}
theorem anyI_iff (p : Int → Bool) : ∀ (m : Nat), anyI m p = true ↔ ∃ j : Int, 0 ≤ j ∧ j < m ∧ p j = true := by
  intro m
  induction m with
  | zero => unfold anyI; simp; intro j a b; omega
  | succ m ih =>
    unfold anyI
    rw [Bool.or_eq_true, ih]
    constructor
    · rintro (h | ⟨j, h1, h2, h3⟩)
      · exact ⟨m, by omega, by omega, h⟩
      · exact ⟨j, h1, by omega, h3⟩
    · rintro ⟨j, h1, h2, h3⟩
      by_cases e : j = m
      · left; rw [← e]; exact h3
      · right; exact ⟨j, h1, by omega, h3⟩
theorem ok_hasOf (hG : Mg f A) (hW : Wg A) {i b s : Int} (hi : 0 ≤ i ∧ i < 24) (hb : f 270 i = b) (hbr : -1 ≤ b ∧ b ≤ A 0 2 0) (hs : f 269 i = s) (hsr : 0 ≤ s ∧ s < A 0 4 0) : OkI D m_mo_hasOf [vr D 219, vi i] (Zg g h) f (fun x f' => x = (if b < A 0 2 0 then b else 5 + A 7 s 0) ∧ f' = f) := by
  have hn := hW.1
  refine OkI_of (L0 := [vr D 219, vi i]) mi_mo_hasOf rfl rfl (Nat.le_of_ble_eq_true rfl) (fun C hR => ?_)
  refine V_aload_0 d_mo_hasOf_0 ?_
  refine V_getR d_mo_hasOf_1 fl_mo_166 is_mo r_mo_body ?_
  refine V_iload_1 d_mo_hasOf_4 ?_
  refine V_iald d_mo_hasOf_5 is_mo_body (by omega) (by omega) ?_
  rw [hb]
  refine V_aload_0 d_mo_hasOf_6 ?_
  refine V_cvI0 d_mo_hasOf_7 ml_mo_419 mv_mo_shadeMany (by decide) (Nat.le_of_ble_eq_true rfl) is_mo (ok_shadeMany hG) ?_
  rintro _ f2 ⟨rfl, e2⟩
  rw [e2]; clear e2 f2
  refine V_icmp_ge 22 d_mo_hasOf_10 (by decide) (by omega) (by omega) (fun c10 => ?_) (fun c10 => ?_)
  · skip
    refine V_iconst 5 d_mo_hasOf_22 ?_
    refine V_aload_0 d_mo_hasOf_23 ?_
    refine V_aload_0 d_mo_hasOf_24 ?_
    refine V_getR d_mo_hasOf_25 fl_mo_163 is_mo r_mo_open0 ?_
    refine V_iload_1 d_mo_hasOf_28 ?_
    refine V_iald d_mo_hasOf_29 is_mo_open0 (by omega) (by omega) ?_
    rw [hs]
    refine V_cvI1 d_mo_hasOf_30 ml_mo_425 mv_mo_personOf (by decide) (Nat.le_of_ble_eq_true rfl) is_mo (ok_personOf hG hW hsr.1 hsr.2) ?_
    rintro _ f2 ⟨rfl, e2⟩
    rw [e2]; clear e2 f2
    refine V_iadd d_mo_hasOf_33 ?_
    refine V_ireturn d_mo_hasOf_34 (hR _ _ ?_)
    refine ⟨?_, rfl⟩
    first | (rw [if_neg (by omega)]; done) | (rw [if_pos (by omega)]; done)
  · skip
    refine V_aload_0 d_mo_hasOf_13 ?_
    refine V_getR d_mo_hasOf_14 fl_mo_166 is_mo r_mo_body ?_
    refine V_iload_1 d_mo_hasOf_17 ?_
    refine V_iald d_mo_hasOf_18 is_mo_body (by omega) (by omega) ?_
    rw [hb]
    refine V_goto 34 d_mo_hasOf_19 (by decide) ?_
    refine V_ireturn d_mo_hasOf_34 (hR _ _ ?_)
    refine ⟨?_, rfl⟩
    first | (rw [if_neg (by omega)]; done) | (rw [if_pos (by omega)]; done)
/-- a body that has hS or hP can have one more just where our rows say so -/
theorem has_vd (hF : Wf A) {c a : Int → Int} {i n : Nat} {l b : Int} (hin : i < n) (hc : ∀ k : Int, 0 ≤ k → k < n → 0 ≤ c k ∧ c k < A 0 4 0) (hb : 0 ≤ b ∧ b ≤ A 0 2 0) (hl : b < A 0 2 0 → l ≤ A 8 b (c i)) : mB (fun t => (if b < A 0 2 0 then hsS A c a i b t else hsP A c a i (A 7 (c i) 0) t) && !(decide (t < A 0 4 0) && can A (c i) t)) = 0 ↔ vd (okS A c l) (smS A c) (cmS A c) (bdy A b) i a = true := by
  have hn := hF.nn
  unfold vd bdy
  rw [mB_is0, Bool.and_eq_true, allI_iff]
  by_cases e : b < A 0 2 0
  · simp only [if_pos e]
    have hok : okS A c l b i = true ↔ ∀ t, 0 ≤ t → t < 31 → (held A b t && !can A (c i) t) = false := by
      unfold okS
      rw [if_neg (by omega), decide_eq_true (hl e), Bool.true_and, decide_eq_true_iff, mB_is0]
    rw [hok]
    constructor
    · intro hh
      refine ⟨fun t t0 t1 => ?_, fun j j0 j1 => ?_⟩
      · have := hh t t0 t1
        unfold hsS at this
        cases ht : held A b t
        · rfl
        · rw [ht, decide_eq_true (held_hi ht)] at this
          simpa using this
      · have bj := hc j j0 (by omega)
        have := hh (c j) bj.1 (by omega)
        by_cases ea : a j = b
        · have h1 : hsS A c a i b (c j) = true := by
            unfold hsS
            rw [(anyI_iff _ i).mpr ⟨j, j0, by omega, by simp [ea]⟩, Bool.or_true]
          rw [h1, decide_eq_true bj.2] at this
          unfold cmS
          rw [show can A (c i) (c j) = true by simpa using this, Bool.or_true]
        · rw [decide_eq_false ea]; rfl
    · rintro ⟨h1, h2⟩ t t0 t1
      cases hh : hsS A c a i b t
      · rfl
      · unfold hsS at hh
        rw [Bool.or_eq_true] at hh
        rcases hh with hh | hh
        · have := h1 t t0 t1
          rw [hh] at this
          rw [show can A (c i) t = true by simpa using this, decide_eq_true (held_hi hh)]; rfl
        · obtain ⟨j, j0, j1, j2⟩ := (anyI_iff _ i).mp hh
          rw [Bool.and_eq_true, decide_eq_true_iff, decide_eq_true_iff] at j2
          have h3 := h2 j j0 (by omega)
          have hsm : smS A c b j i = true := by unfold smS; rw [if_neg (by omega)]
          rw [decide_eq_true j2.1, hsm] at h3
          unfold cmS at h3
          rw [j2.2, show can A (c i) (c j) = true by simpa using h3, decide_eq_true (hc j j0 (by omega)).2]; rfl
  · simp only [if_neg e]
    have hok : okS A c l 9 i = true := if_pos rfl
    rw [hok]
    have hsm : ∀ j, smS A c 9 j i = decide (A 7 (c j) 0 = A 7 (c i) 0) := fun j => if_pos rfl
    constructor
    · intro hh
      refine ⟨rfl, fun j j0 j1 => ?_⟩
      have bj := hc j j0 (by omega)
      have := hh (c j) bj.1 (by omega)
      rw [hsm]
      by_cases ea : a j = 9 ∧ A 7 (c j) 0 = A 7 (c i) 0
      · have h1 : hsP A c a i (A 7 (c i) 0) (c j) = true := (anyI_iff _ i).mpr ⟨j, j0, by omega, by simp [ea.1, ea.2]⟩
        rw [h1, decide_eq_true bj.2] at this
        unfold cmS
        rw [show can A (c i) (c j) = true by simpa using this, Bool.or_true]
      · have : (decide (a j = 9) && decide (A 7 (c j) 0 = A 7 (c i) 0)) = false := by
          rw [Bool.and_eq_false_iff, decide_eq_false_iff_not, decide_eq_false_iff_not]
          by_cases e1 : a j = 9
          · exact Or.inr (fun e2 => ea ⟨e1, e2⟩)
          · exact Or.inl e1
        rw [this]; rfl
    · rintro ⟨-, h2⟩ t t0 t1
      cases hh : hsP A c a i (A 7 (c i) 0) t
      · rfl
      · obtain ⟨j, j0, j1, j2⟩ := (anyI_iff _ i).mp hh
        rw [Bool.and_eq_true, Bool.and_eq_true, decide_eq_true_iff, decide_eq_true_iff, decide_eq_true_iff] at j2
        have h3 := h2 j j0 (by omega)
        rw [hsm, decide_eq_true j2.1.1, decide_eq_true j2.1.2] at h3
        unfold cmS at h3
        rw [j2.2, show can A (c i) (c j) = true by simpa using h3, decide_eq_true (hc j j0 (by omega)).2]; rfl
end MO10
