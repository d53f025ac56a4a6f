/-! System.arraycopy of a whole row of 24 -/
section COPY
variable {D : q_D} {C : q_C} {M : q_M} {pc N cs ss : Nat} {L : List Value} {rf : Int → Int → Int} {f : q_F} {q r : Int}
def q_cp (f : q_F) (q r : Int) : q_F := fun j k => if j = r ∧ 0 ≤ k ∧ k < 24 then f q k else f j k
theorem V_acopy (hM : (q_y M).cls = "HiredShades$Hires") (hdp : 1 ≤ q_dp M) (hd : decode (q_cc M) pc = .ok (.invokestatic 30, 3)) (hq : q_ce N q 20 24) (hr : q_ce N r 20 24) (k : V D C M (pc + 3) L [] (N, rf, cs, ss) (q_cp f q r)) : V D C M pc L [vi 24, vi 0, vr D r, vi 0, vr D q] (N, rf, cs, ss) f := by
  intro hC H ls locs hW hL hlo
  have hc0 := hW.arr hq (by omega)
  have hc1 := hW.arr hr (by omega)
  have hk := k hC
  intro T hT X
  obtain ⟨-, k0, hk0, cm0, hkk0⟩ := (hC.2.2.2.2.2.2.2.2.1.2.1 20 .int rfl).1 (24 : Int).toNat (q_sv D (N, rf, cs, ss) f q.toNat)
  obtain ⟨-, k1, hk1, cm1, hkk1⟩ := (hC.2.2.2.2.2.2.2.2.1.2.1 20 .int rfl).1 (24 : Int).toNat (q_sv D (N, rf, cs, ss) f r.toNat)
  have hsl : ls.size = q_ml M := hL.2.1
  obtain ⟨vm', X', step⟩ := X.arraycopy hC.1 (own := "HiredShades$Hires") (index := 30) (by rw [← hM]; exact hC.2.2.2.1)
    (hC.2.2.2.2.1 _ (q_in 829 (by decide +kernel) rfl)) (hC.2.2.2.2.1 _ (q_in 831 (by decide +kernel) rfl)) (hC.2.2.2.2.1 _ (q_in 830 (by decide +kernel) rfl)) (hC.2.2.2.2.1 _ (q_in 16 (by decide +kernel) rfl))
    (src := D.1 + q.toNat) (dst := D.1 + r.toNat) (srcPos := Int32.ofInt 0) (destPos := Int32.ofInt 0) (n := Int32.ofInt 24) (by rw [hT]; exact hc0) (by rw [hT]; exact hc1)
    (fun _ h => by cases h) (fun _ h => by cases h) (fun h => by cases h) (fun h => by cases h) hk0 hk1 hkk0 hkk1 (by decide) (by decide) (by decide) (by decide)
    (by show ¬ _ > ((arrV _ _ _).slots.size : Int); rw [arrV_size]; decide) (by show ¬ _ > ((arrV _ _ _).slots.size : Int); rw [arrV_size]; decide)
    (fun vm₁ _ i hi => by
      have e : (arrV (D.2.2.2.2.1 20) (24 : Int).toNat (q_sv D (N, rf, cs, ss) f q.toNat)).slots.getD ((Int32.ofInt 0).toNatClampNeg + i) .null = vi (f q ((Int32.ofInt 0).toNatClampNeg + i : Nat)) := by
        rw [Array.getD_eq_getD_getElem?, arrV_read _ _ (by have : (Int32.ofInt 24).toNatClampNeg = 24 := rfl; have : (Int32.ofInt 0).toNatClampNeg = 0 := rfl; omega), q_sv_i hq.1 (q_tq hq.2.2 _)]
        rfl
      rw [e]
      exact ⟨rfl, trivial⟩)
    (g := F0 (c_m C) pc ls [vi 24, vi 0, vr D r, vi 0, vr D q]) rfl (by rw [hC.2.2.1]; exact hsl) (rest := []) rfl (by rw [hC.2.1]; exact hd) (Nat.le_trans hdp hC.2.2.2.2.2.2.2.2.2.1)
    (Nat.le_trans (by show 2 * 0 + 0 + (nativeFrameWords "java/lang/System" "arraycopy" 5 + 11) ≤ 41 * 1; decide) (Nat.le_trans (Nat.mul_le_mul_left 41 hdp) hC.2.2.2.2.2.2.2.2.2.2.1))
  have e1 : copied (arrV (D.2.2.2.2.1 20) (24 : Int).toNat (q_sv D (N, rf, cs, ss) f q.toNat)) (arrV (D.2.2.2.2.1 20) (24 : Int).toNat (q_sv D (N, rf, cs, ss) f r.toNat)) (Int32.ofInt 0) (Int32.ofInt 0) (Int32.ofInt 24) = arrV (D.2.2.2.2.1 20) (24 : Int).toNat (q_sv D (N, rf, cs, ss) (q_cp f q r) r.toNat) := by
    have := va_copied (fun v : Value => v) (D.2.2.2.2.1 20) (D.2.2.2.2.1 20) (n0 := 24) (n1 := 24) (sp := 0) (dp := 0) (n := 24) (q_sv D (N, rf, cs, ss) f q.toNat) (q_sv D (N, rf, cs, ss) f r.toNat) (by decide)
    refine this.trans (congrArg (arrV _ _) (funext fun j => ?_))
    unfold va_cpy
    by_cases e : 0 ≤ j ∧ j < 0 + 24
    · rw [if_pos e, q_sv_i hq.1 (q_tq hq.2.2 _), q_sv_i hr.1 (q_tq hr.2.2 _)]
      unfold q_cp
      rw [if_pos ⟨rfl, by omega, by omega⟩]
      simp
    · rw [if_neg e, q_sv_i hr.1 (q_tq hr.2.2 _), q_sv_i hr.1 (q_tq hr.2.2 _)]
      unfold q_cp
      rw [if_neg (fun h => e ⟨by omega, by omega⟩)]
  rw [e1] at X' step
  have hl : D.1 + r.toNat < H.size := (Array.getElem?_eq_some_iff.mp hc1).1
  have oq : ∀ p : Nat, p ≠ D.1 + r.toNat → (H.setIfInBounds (D.1 + r.toNat) (arrV (D.2.2.2.2.1 20) (24 : Int).toNat (q_sv D (N, rf, cs, ss) (q_cp f q r) r.toNat)))[p]? = H[p]? := fun p hp => by simp [Array.getElem?_setIfInBounds, Ne.symm hp]
  have hheap : ((T.setVm vm').setCell (D.1 + r.toNat) (arrV (D.2.2.2.2.1 20) (24 : Int).toNat (q_sv D (N, rf, cs, ss) (q_cp f q r) r.toNat))).heap = H.setIfInBounds (D.1 + r.toNat) (arrV (D.2.2.2.2.1 20) (24 : Int).toNat (q_sv D (N, rf, cs, ss) (q_cp f q r) r.toNat)) := by rw [← hT]; rfl
  obtain ⟨h0, hN, hkn⟩ := hr
  obtain ⟨e2, e3⟩ := q_kq h0 hkn
  have hW' : q_W D (N, rf, cs, ss) (q_cp f q r) (H.setIfInBounds (D.1 + r.toNat) (arrV (D.2.2.2.2.1 20) (24 : Int).toNat (q_sv D (N, rf, cs, ss) (q_cp f q r) r.toNat))) := by
    refine hW.upd (j := r.toNat) rfl (by simp) oq ⟨fun c hc => ?_, fun _ => ?_⟩ (fun j' hj' => ?_)
    · rw [e2] at hc
      have : (q_cl)[20]? = none := List.getElem?_eq_none (by simp)
      rw [this] at hc; cases hc
    · rw [e2, e3]; simp [Array.getElem?_setIfInBounds, hl]
    · funext k
      unfold q_sv q_cp
      rw [if_neg (fun h => hj' (by omega))]
  obtain ⟨t, a1, b1⟩ := hk _ ls _ hW' hL (fun p hp => by
      rcases List.mem_append.mp hp with h | h
      · exact hlo p h
      · obtain ⟨z, -, hz⟩ := List.mem_map.mp h
        rw [← hz]; exact Nat.le_add_right _ _) _ hheap X'
  exact ⟨t, step t a1, b1⟩
end COPY
