/-! switches -/
section SWITCH
variable {D : q_D} {C : q_C} {M : q_M} {pc : Nat} {L st : List Value} {z : q_Z} {f : q_F}
theorem V_tsw {x dflt lo hi : Int} {offs : Array Int} {len : Nat} (tgt : Nat) (hd : decode (q_cc M) pc = .ok (.tableswitch dflt lo hi offs, len)) (ht : (pc : Int) + dflt = (tgt : Int)) (hx : -2147483648 ≤ x ∧ x < 2147483648) (kd : x < lo ∨ hi < x → V D C M tgt L st z f) (ki : lo ≤ x ∧ x ≤ hi → V D C M pc L (vi x :: st) z f) : V D C M pc L (vi x :: st) z f := by
  by_cases h : x < lo ∨ hi < x
  · intro hC H ls locs hW hL hlo
    exact lv_tableOut hC.1 hC.2.1 hd (by rw [q_ti hx]; exact h) ht (kd h hC H ls locs hW hL hlo)
  · exact ki (by omega)
theorem V_tsi {x dflt lo hi off : Int} {offs : Array Int} {len : Nat} (tgt : Nat) (hd : decode (q_cc M) pc = .ok (.tableswitch dflt lo hi offs, len)) (hx : -2147483648 ≤ x ∧ x < 2147483648) (h : lo ≤ x ∧ x ≤ hi) (ho : offs[(x - lo).toNat]? = some off) (ht : (pc : Int) + off = (tgt : Int)) (k : V D C M tgt L st z f) : V D C M pc L (vi x :: st) z f := by
  intro hC H ls locs hW hL hlo
  exact lv_tableIn hC.1 hC.2.1 hd (by rw [q_ti hx]; omega) (by rw [q_ti hx]; omega) (by rw [q_ti hx]; exact ho) ht (k hC H ls locs hW hL hlo)
theorem V_lsw {x dflt off : Int} {ps : Array (Int × Int)} {len : Nat} (tgt : Nat) (hd : decode (q_cc M) pc = .ok (.lookupswitch dflt ps, len)) (hp : (ps.toList.zip (ps.toList.drop 1)).all (fun (a, next) => a.1 < next.1) = true) (hx : -2147483648 ≤ x ∧ x < 2147483648) (ho : Op.lookupswitch.offset ps.toList dflt x = off) (ht : (pc : Int) + off = (tgt : Int)) (k : V D C M tgt L st z f) : V D C M pc L (vi x :: st) z f := by
  intro hC H ls locs hW hL hlo
  exact lv_lookup hC.1 hC.2.1 hd hp (by rw [q_ti hx]; exact ho) ht (k hC H ls locs hW hL hlo)
end SWITCH
section WIDE
variable {D : q_D} {C : q_C} {M : q_M} {pc : Nat} {L st : List Value} {z : q_Z} {f : q_F}
theorem q_eqw {x y : Int} (h : -4294967296 < x - y ∧ x - y < 4294967296) : Int32.ofInt x = Int32.ofInt y ↔ x = y := by
  constructor
  · intro e
    have e2 := congrArg Int32.toInt e
    rw [Int32.toInt_ofInt, Int32.toInt_ofInt] at e2
    have es : ((Int32.size : Nat) : Int) = 4294967296 := rfl
    simp only [Int.bmod, es] at e2
    split at e2 <;> split at e2 <;> omega
  · intro e; rw [e]
theorem V_if_new {x : Int} {off : Int} (tgt : Nat) (hd : decode (q_cc M) pc = .ok (.ifCond .ne off, 3)) (ht : (pc : Int) + off = (tgt : Int)) (hx : -4294967296 < x ∧ x < 4294967296) (kt : ¬ x = 0 → V D C M tgt L st z f) (kf : x = 0 → V D C M (pc + 3) L st z f) : V D C M pc L (vi x :: st) z f := by
  intro hC H ls locs hW hL hlo
  refine lv_if_ne hC.1 hC.2.1 hd ht (fun h => kt ?_ hC H ls locs hW hL hlo) (fun h => kf ?_ hC H ls locs hW hL hlo)
  · rw [q_0, q_eqw (by omega)] at h; exact h
  · rw [q_0, q_eqw (by omega)] at h; exact h
end WIDE
