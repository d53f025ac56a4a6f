/-! the JDK's own methods -/
section JDK
variable {D : q_D} {f : q_F} {g h : Int}
theorem ok_max {x y : Int} (hx : -2147483648 ≤ x ∧ x < 2147483648) (hy : -2147483648 ≤ y ∧ y < 2147483648) : OkI D m_jm_max [vi x, vi y] (Zg g h) f (fun r f' => r = max x y ∧ f' = f) := by
  refine OkI_of (L0 := [vi x, vi y]) mi_jm_max rfl rfl (Nat.le_of_ble_eq_true rfl) (fun C hR => ?_)
  refine V_iload_0 d_jm_max_0 ?_
  refine V_iload_1 d_jm_max_1 ?_
  refine V_icmp_lt 9 d_jm_max_2 (by decide) (by omega) (by omega) (fun c2 => ?_) (fun c2 => ?_)
  · skip
    refine V_iload_1 d_jm_max_9 ?_
    refine V_ireturn d_jm_max_10 (hR _ _ ?_)
    refine ⟨?_, rfl⟩; omega
  · skip
    refine V_iload_0 d_jm_max_5 ?_
    refine V_goto 10 d_jm_max_6 (by decide) ?_
    refine V_ireturn d_jm_max_10 (hR _ _ ?_)
    refine ⟨?_, rfl⟩; omega
theorem ok_min {x y : Int} (hx : -2147483648 ≤ x ∧ x < 2147483648) (hy : -2147483648 ≤ y ∧ y < 2147483648) : OkI D m_jm_min [vi x, vi y] (Zg g h) f (fun r f' => r = min x y ∧ f' = f) := by
  refine OkI_of (L0 := [vi x, vi y]) mi_jm_min rfl rfl (Nat.le_of_ble_eq_true rfl) (fun C hR => ?_)
  refine V_iload_0 d_jm_min_0 ?_
  refine V_iload_1 d_jm_min_1 ?_
  refine V_icmp_gt 9 d_jm_min_2 (by decide) (by omega) (by omega) (fun c2 => ?_) (fun c2 => ?_)
  · skip
    refine V_iload_1 d_jm_min_9 ?_
    refine V_ireturn d_jm_min_10 (hR _ _ ?_)
    refine ⟨?_, rfl⟩; omega
  · skip
    refine V_iload_0 d_jm_min_5 ?_
    refine V_goto 10 d_jm_min_6 (by decide) ?_
    refine V_ireturn d_jm_min_10 (hR _ _ ?_)
    refine ⟨?_, rfl⟩; omega
theorem ok_maxL {x y : Int} (hx : -9223372036854775808 ≤ x ∧ x < 9223372036854775808) (hy : -9223372036854775808 ≤ y ∧ y < 9223372036854775808) : OkL D m_jm_maxL [vl x, vl y] (Zg g h) f (fun r f' => r = max x y ∧ f' = f) := by
  refine OkL_of (L0 := [vl x, vu, vl y, vu]) mi_jm_maxL rfl rfl (Nat.le_of_ble_eq_true rfl) (fun C hR => ?_)
  refine V_lload_0 d_jm_maxL_0 ?_
  refine V_lload_2 d_jm_maxL_1 ?_
  refine V_lcmp_lt 10 d_jm_maxL_2 d_jm_maxL_3 (by decide) (by omega) (by omega) (fun c2 => ?_) (fun c2 => ?_)
  · skip
    refine V_lload_2 d_jm_maxL_10 ?_
    refine V_lreturn d_jm_maxL_11 (hR _ _ ?_)
    refine ⟨?_, rfl⟩; omega
  · skip
    refine V_lload_0 d_jm_maxL_6 ?_
    refine V_goto 11 d_jm_maxL_7 (by decide) ?_
    refine V_lreturn d_jm_maxL_11 (hR _ _ ?_)
    refine ⟨?_, rfl⟩; omega
theorem ok_minL {x y : Int} (hx : -9223372036854775808 ≤ x ∧ x < 9223372036854775808) (hy : -9223372036854775808 ≤ y ∧ y < 9223372036854775808) : OkL D m_jm_minL [vl x, vl y] (Zg g h) f (fun r f' => r = min x y ∧ f' = f) := by
  refine OkL_of (L0 := [vl x, vu, vl y, vu]) mi_jm_minL rfl rfl (Nat.le_of_ble_eq_true rfl) (fun C hR => ?_)
  refine V_lload_0 d_jm_minL_0 ?_
  refine V_lload_2 d_jm_minL_1 ?_
  refine V_lcmp_gt 10 d_jm_minL_2 d_jm_minL_3 (by decide) (by omega) (by omega) (fun c2 => ?_) (fun c2 => ?_)
  · skip
    refine V_lload_2 d_jm_minL_10 ?_
    refine V_lreturn d_jm_minL_11 (hR _ _ ?_)
    refine ⟨?_, rfl⟩; omega
  · skip
    refine V_lload_0 d_jm_minL_6 ?_
    refine V_goto 11 d_jm_minL_7 (by decide) ?_
    refine V_lreturn d_jm_minL_11 (hR _ _ ?_)
    refine ⟨?_, rfl⟩; omega
theorem ok_abs {x : Int} (hx : -2147483648 ≤ x ∧ x < 2147483648) : OkI D m_jm_abs [vi x] (Zg g h) f (fun r f' => r = (if x < 0 then -x else x) ∧ f' = f) := by
  refine OkI_of (L0 := [vi x]) mi_jm_abs rfl rfl (Nat.le_of_ble_eq_true rfl) (fun C hR => ?_)
  refine V_iload_0 d_jm_abs_0 ?_
  refine V_if_ge 9 d_jm_abs_1 (by decide) (by omega) (fun c1 => ?_) (fun c1 => ?_)
  · skip
    refine V_iload_0 d_jm_abs_9 ?_
    refine V_ireturn d_jm_abs_10 (hR _ _ ?_)
    refine ⟨?_, rfl⟩; split <;> omega
  · skip
    refine V_iload_0 d_jm_abs_4 ?_
    refine V_ineg d_jm_abs_5 ?_
    refine V_goto 10 d_jm_abs_6 (by decide) ?_
    refine V_ireturn d_jm_abs_10 (hR _ _ ?_)
    refine ⟨?_, rfl⟩; split <;> omega
end JDK
