/-! rows: one instruction each, over V (written by wip/gen/rows.py) -/
section ROWS
variable {D : q_D} {C : q_C} {M : q_M} {pc : Nat} {L st : List Value} {z : q_Z} {f : q_F}
theorem V_iadd {x y : Int} (hd : decode (q_cc M) pc = .ok (.iadd, 1))  (k : V D C M (pc + 1) L (vi (x + y) :: st) z f) : V D C M pc L (vi y :: vi x :: st) z f := by
  intro hC H ls locs hW hL hlo
  have h := k hC H ls locs hW hL hlo
  unfold vi at h ⊢
  rw [Int32.ofInt_add] at h
  exact lv_iadd hC.1 hC.2.1 hd  h
theorem V_ladd {x y : Int} (hd : decode (q_cc M) pc = .ok (.ladd, 1))  (k : V D C M (pc + 1) L (vl (x + y) :: st) z f) : V D C M pc L (vl y :: vl x :: st) z f := by
  intro hC H ls locs hW hL hlo
  have h := k hC H ls locs hW hL hlo
  unfold vl at h ⊢
  rw [Int64.ofInt_add] at h
  exact lv_ladd hC.1 hC.2.1 hd  h
theorem V_isub {x y : Int} (hd : decode (q_cc M) pc = .ok (.isub, 1))  (k : V D C M (pc + 1) L (vi (x - y) :: st) z f) : V D C M pc L (vi y :: vi x :: st) z f := by
  intro hC H ls locs hW hL hlo
  have h := k hC H ls locs hW hL hlo
  unfold vi at h ⊢
  rw [Int32.ofInt_sub] at h
  exact lv_isub hC.1 hC.2.1 hd  h
theorem V_lsub {x y : Int} (hd : decode (q_cc M) pc = .ok (.lsub, 1))  (k : V D C M (pc + 1) L (vl (x - y) :: st) z f) : V D C M pc L (vl y :: vl x :: st) z f := by
  intro hC H ls locs hW hL hlo
  have h := k hC H ls locs hW hL hlo
  unfold vl at h ⊢
  rw [Int64.ofInt_sub] at h
  exact lv_lsub hC.1 hC.2.1 hd  h
theorem V_imul {x y : Int} (hd : decode (q_cc M) pc = .ok (.imul, 1))  (k : V D C M (pc + 1) L (vi (x * y) :: st) z f) : V D C M pc L (vi y :: vi x :: st) z f := by
  intro hC H ls locs hW hL hlo
  have h := k hC H ls locs hW hL hlo
  unfold vi at h ⊢
  rw [Int32.ofInt_mul] at h
  exact lv_imul hC.1 hC.2.1 hd  h
theorem V_lmul {x y : Int} (hd : decode (q_cc M) pc = .ok (.lmul, 1))  (k : V D C M (pc + 1) L (vl (x * y) :: st) z f) : V D C M pc L (vl y :: vl x :: st) z f := by
  intro hC H ls locs hW hL hlo
  have h := k hC H ls locs hW hL hlo
  unfold vl at h ⊢
  rw [Int64.ofInt_mul] at h
  exact lv_lmul hC.1 hC.2.1 hd  h
theorem V_iand {x y : Int} (hd : decode (q_cc M) pc = .ok (.iand, 1)) (k : V D C M (pc + 1) L (vi (q_and x y) :: st) z f) : V D C M pc L (vi y :: vi x :: st) z f := by
  intro hC H ls locs hW hL hlo
  have h := k hC H ls locs hW hL hlo
  unfold vi q_and at h
  rw [Int32.ofInt_toInt] at h
  exact lv_iand hC.1 hC.2.1 hd h
theorem V_ior {x y : Int} (hd : decode (q_cc M) pc = .ok (.ior, 1)) (k : V D C M (pc + 1) L (vi (q_or x y) :: st) z f) : V D C M pc L (vi y :: vi x :: st) z f := by
  intro hC H ls locs hW hL hlo
  have h := k hC H ls locs hW hL hlo
  unfold vi q_or at h
  rw [Int32.ofInt_toInt] at h
  exact lv_ior hC.1 hC.2.1 hd h
theorem V_ixor {x y : Int} (hd : decode (q_cc M) pc = .ok (.ixor, 1)) (k : V D C M (pc + 1) L (vi (q_xor x y) :: st) z f) : V D C M pc L (vi y :: vi x :: st) z f := by
  intro hC H ls locs hW hL hlo
  have h := k hC H ls locs hW hL hlo
  unfold vi q_xor at h
  rw [Int32.ofInt_toInt] at h
  exact lv_ixor hC.1 hC.2.1 hd h
theorem V_ishl {x y : Int} (hd : decode (q_cc M) pc = .ok (.ishl, 1)) (k : V D C M (pc + 1) L (vi (q_shl x y) :: st) z f) : V D C M pc L (vi y :: vi x :: st) z f := by
  intro hC H ls locs hW hL hlo
  have h := k hC H ls locs hW hL hlo
  unfold vi q_shl at h
  rw [Int32.ofInt_toInt] at h
  exact lv_ishl hC.1 hC.2.1 hd h
theorem V_ishr {x y : Int} (hd : decode (q_cc M) pc = .ok (.ishr, 1)) (k : V D C M (pc + 1) L (vi (q_shr x y) :: st) z f) : V D C M pc L (vi y :: vi x :: st) z f := by
  intro hC H ls locs hW hL hlo
  have h := k hC H ls locs hW hL hlo
  unfold vi q_shr at h
  rw [Int32.ofInt_toInt] at h
  exact lv_ishr hC.1 hC.2.1 hd h
theorem V_iushr {x y : Int} (hd : decode (q_cc M) pc = .ok (.iushr, 1)) (k : V D C M (pc + 1) L (vi (q_ush x y) :: st) z f) : V D C M pc L (vi y :: vi x :: st) z f := by
  intro hC H ls locs hW hL hlo
  have h := k hC H ls locs hW hL hlo
  unfold vi q_ush at h
  rw [Int32.ofInt_toInt] at h
  exact lv_iushr hC.1 hC.2.1 hd rfl h
theorem V_idiv {x y : Int} (hd : decode (q_cc M) pc = .ok (.idiv, 1)) (hx : 0 ≤ x ∧ x < 2147483648) (hy : 0 < y ∧ y < 2147483648) (k : V D C M (pc + 1) L (vi (x / y) :: st) z f) : V D C M pc L (vi y :: vi x :: st) z f := by
  intro hC H ls locs hW hL hlo
  have h := k hC H ls locs hW hL hlo
  unfold vi at h ⊢
  rw [← q_div hx hy] at h
  exact lv_idiv hC.1 hC.2.1 hd (fun e => by rw [q_0, q_eq (by omega) (by omega)] at e; omega) h
theorem V_irem {x y : Int} (hd : decode (q_cc M) pc = .ok (.irem, 1)) (hx : 0 ≤ x ∧ x < 2147483648) (hy : 0 < y ∧ y < 2147483648) (k : V D C M (pc + 1) L (vi (x % y) :: st) z f) : V D C M pc L (vi y :: vi x :: st) z f := by
  intro hC H ls locs hW hL hlo
  have h := k hC H ls locs hW hL hlo
  unfold vi at h ⊢
  rw [← q_rem hx hy] at h
  exact lv_irem hC.1 hC.2.1 hd (fun e => by rw [q_0, q_eq (by omega) (by omega)] at e; omega) h
theorem V_idivT {x y : Int} (hd : decode (q_cc M) pc = .ok (.idiv, 1)) (hx : -2147483648 < x ∧ x < 2147483648) (hy : -2147483648 ≤ y ∧ y < 2147483648) (h0 : y ≠ 0) (k : V D C M (pc + 1) L (vi (x.tdiv y) :: st) z f) : V D C M pc L (vi y :: vi x :: st) z f := by
  intro hC H ls locs hW hL hlo
  have h := k hC H ls locs hW hL hlo
  unfold vi at h ⊢
  rw [← q_tdiv hx hy] at h
  exact lv_idiv hC.1 hC.2.1 hd (fun e => by rw [q_0, q_eq (by omega) (by omega)] at e; omega) h
theorem V_ldiv {x y : Int} (hd : decode (q_cc M) pc = .ok (.ldiv, 1)) (hx : 0 ≤ x ∧ x < 9223372036854775808) (hy : 0 < y ∧ y < 9223372036854775808) (k : V D C M (pc + 1) L (vl (x / y) :: st) z f) : V D C M pc L (vl y :: vl x :: st) z f := by
  intro hC H ls locs hW hL hlo
  have h := k hC H ls locs hW hL hlo
  unfold vl at h ⊢
  rw [← q_ldiv hx hy] at h
  exact lv_ldiv hC.1 hC.2.1 hd (fun e => by rw [show (0 : Int64) = Int64.ofInt 0 from rfl, q_leq (by omega) (by omega)] at e; omega) h
theorem V_lrem {x y : Int} (hd : decode (q_cc M) pc = .ok (.lrem, 1)) (hx : 0 ≤ x ∧ x < 9223372036854775808) (hy : 0 < y ∧ y < 9223372036854775808) (k : V D C M (pc + 1) L (vl (x % y) :: st) z f) : V D C M pc L (vl y :: vl x :: st) z f := by
  intro hC H ls locs hW hL hlo
  have h := k hC H ls locs hW hL hlo
  unfold vl at h ⊢
  rw [← q_lrem hx hy] at h
  exact lv_lrem hC.1 hC.2.1 hd (fun e => by rw [show (0 : Int64) = Int64.ofInt 0 from rfl, q_leq (by omega) (by omega)] at e; omega) h
theorem V_ldivT {x y : Int} (hd : decode (q_cc M) pc = .ok (.ldiv, 1)) (hx : -9223372036854775808 < x ∧ x < 9223372036854775808) (hy : -9223372036854775808 ≤ y ∧ y < 9223372036854775808) (h0 : y ≠ 0) (k : V D C M (pc + 1) L (vl (x.tdiv y) :: st) z f) : V D C M pc L (vl y :: vl x :: st) z f := by
  intro hC H ls locs hW hL hlo
  have h := k hC H ls locs hW hL hlo
  unfold vl at h ⊢
  rw [← q_ltdiv hx hy] at h
  exact lv_ldiv hC.1 hC.2.1 hd (fun e => by rw [show (0 : Int64) = Int64.ofInt 0 from rfl, q_leq (by omega) (by omega)] at e; omega) h
theorem V_lremT {x y : Int} (hd : decode (q_cc M) pc = .ok (.lrem, 1)) (hx : -9223372036854775808 < x ∧ x < 9223372036854775808) (hy : -9223372036854775808 ≤ y ∧ y < 9223372036854775808) (h0 : y ≠ 0) (k : V D C M (pc + 1) L (vl (x.tmod y) :: st) z f) : V D C M pc L (vl y :: vl x :: st) z f := by
  intro hC H ls locs hW hL hlo
  have h := k hC H ls locs hW hL hlo
  unfold vl at h ⊢
  rw [← q_ltmod hx hy] at h
  exact lv_lrem hC.1 hC.2.1 hd (fun e => by rw [show (0 : Int64) = Int64.ofInt 0 from rfl, q_leq (by omega) (by omega)] at e; omega) h
theorem V_ineg {x : Int} (hd : decode (q_cc M) pc = .ok (.ineg, 1))  (k : V D C M (pc + 1) L (vi (-x) :: st) z f) : V D C M pc L (vi x :: st) z f := by
  intro hC H ls locs hW hL hlo
  have h := k hC H ls locs hW hL hlo
  unfold vi at *
  rw [Int32.ofInt_neg] at h; exact lv_ineg hC.1 hC.2.1 hd h
theorem V_i2l {x : Int} (hd : decode (q_cc M) pc = .ok (.i2l, 1)) (hx : -2147483648 ≤ x ∧ x < 2147483648) (k : V D C M (pc + 1) L (vl (x) :: st) z f) : V D C M pc L (vi x :: st) z f := by
  intro hC H ls locs hW hL hlo
  have h := k hC H ls locs hW hL hlo
  unfold vi vl at *
  exact lv_i2l hC.1 hC.2.1 hd (q_i2l hx) h
theorem V_l2i {x : Int} (hd : decode (q_cc M) pc = .ok (.l2i, 1))  (k : V D C M (pc + 1) L (vi (x) :: st) z f) : V D C M pc L (vl x :: st) z f := by
  intro hC H ls locs hW hL hlo
  have h := k hC H ls locs hW hL hlo
  unfold vi vl at *
  exact lv_l2i hC.1 hC.2.1 hd (q_l2i x) h
theorem V_iconst (x : Int) (hd : decode (q_cc M) pc = .ok (.iconst x, 1)) (k : V D C M (pc + 1) L (vi x :: st) z f) : V D C M pc L st z f := fun hC H ls locs hW hL hlo => lv_iconst hC.1 hC.2.1 hd rfl (k hC H ls locs hW hL hlo)
theorem V_bipush (x : Int) (hd : decode (q_cc M) pc = .ok (.bipush x, 2)) (hx : -128 ≤ x ∧ x < 128) (k : V D C M (pc + 2) L (vi x :: st) z f) : V D C M pc L st z f := fun hC H ls locs hW hL hlo => lv_bipush hC.1 hC.2.1 hd (by rw [← Int32.toInt_inj, Int8.toInt_toInt32, q_ti (by omega), Int8.toInt_ofInt]; have e : ((Int8.size : Nat) : Int) = 256 := rfl; simp only [Int.bmod, e]; split <;> omega) (k hC H ls locs hW hL hlo)
theorem V_sipush (x : Int) (hd : decode (q_cc M) pc = .ok (.sipush x, 3)) (hx : -32768 ≤ x ∧ x < 32768) (k : V D C M (pc + 3) L (vi x :: st) z f) : V D C M pc L st z f := fun hC H ls locs hW hL hlo => lv_sipush hC.1 hC.2.1 hd (by rw [← Int32.toInt_inj, Int16.toInt_toInt32, q_ti (by omega), Int16.toInt_ofInt]; have e : ((Int16.size : Nat) : Int) = 65536 := rfl; simp only [Int.bmod, e]; split <;> omega) (k hC H ls locs hW hL hlo)
theorem V_lconst0 (hd : decode (q_cc M) pc = .ok (.lconst 0, 1)) (k : V D C M (pc + 1) L (vl 0 :: st) z f) : V D C M pc L st z f := fun hC H ls locs hW hL hlo => lv_lconst hC.1 hC.2.1 hd (by decide) (k hC H ls locs hW hL hlo)
theorem V_lconst1 (hd : decode (q_cc M) pc = .ok (.lconst 1, 1)) (k : V D C M (pc + 1) L (vl 1 :: st) z f) : V D C M pc L st z f := fun hC H ls locs hW hL hlo => lv_lconst hC.1 hC.2.1 hd (by decide) (k hC H ls locs hW hL hlo)
theorem V_ldc {idx : Nat} {v : Int32} (x : Int) (hd : decode (q_cc M) pc = .ok (.ldc idx, 2)) (hc : Cond.constant (q_y M).cls idx v ∈ q_T) (hv : v = Int32.ofInt x) (k : V D C M (pc + 2) L (vi x :: st) z f) : V D C M pc L st z f := fun hC H ls locs hW hL hlo => lv_ldc hC.1 hC.2.1 hC.2.2.2.1 (hC.2.2.2.2.1 _ hc) hd (by rw [hv]; exact k hC H ls locs hW hL hlo)
theorem V_ldcw {idx : Nat} {v : Int32} (x : Int) (hd : decode (q_cc M) pc = .ok (.ldc_w idx, 3)) (hc : Cond.constant (q_y M).cls idx v ∈ q_T) (hv : v = Int32.ofInt x) (k : V D C M (pc + 3) L (vi x :: st) z f) : V D C M pc L st z f := fun hC H ls locs hW hL hlo => lv_ldcw hC.1 hC.2.1 hC.2.2.2.1 (hC.2.2.2.2.1 _ hc) hd (by rw [hv]; exact k hC H ls locs hW hL hlo)
theorem V_ldc2 {idx : Nat} {v : Int64} (x : Int) (hd : decode (q_cc M) pc = .ok (.ldc2_w idx, 3)) (hc : Cond.constantLong (q_y M).cls idx v ∈ q_T) (hv : v = Int64.ofInt x) (k : V D C M (pc + 3) L (vl x :: st) z f) : V D C M pc L st z f := fun hC H ls locs hW hL hlo => lv_ldc2 hC.1 hC.2.1 hC.2.2.2.1 (hC.2.2.2.2.1 _ hc) hd (by rw [hv]; exact k hC H ls locs hW hL hlo)
theorem V_dup {a : Value} (hd : decode (q_cc M) pc = .ok (.dup, 1)) (h1 : a.category = 1) (k : V D C M (pc + 1) L (a :: a :: st) z f) : V D C M pc L (a :: st) z f := fun hC H ls locs hW hL hlo => lv_dup hC.1 hC.2.1 hd h1 (k hC H ls locs hW hL hlo)
theorem V_pop {a : Value} (hd : decode (q_cc M) pc = .ok (.pop, 1)) (h1 : a.category = 1) (k : V D C M (pc + 1) L st z f) : V D C M pc L (a :: st) z f := fun hC H ls locs hW hL hlo => lv_pop hC.1 hC.2.1 hd h1 (k hC H ls locs hW hL hlo)
theorem V_dup2 {a b : Value} (hd : decode (q_cc M) pc = .ok (.dup2, 1)) (h1 : a.category = 1) (h2 : b.category = 1) (k : V D C M (pc + 1) L (a :: b :: a :: b :: st) z f) : V D C M pc L (a :: b :: st) z f := fun hC H ls locs hW hL hlo => lv_dup2_11 hC.1 hC.2.1 hd h1 h2 (k hC H ls locs hW hL hlo)
theorem V_dup_x1 {a b : Value} (hd : decode (q_cc M) pc = .ok (.dup_x1, 1)) (h1 : a.category = 1) (h2 : b.category = 1) (k : V D C M (pc + 1) L (a :: b :: a :: st) z f) : V D C M pc L (a :: b :: st) z f := fun hC H ls locs hW hL hlo => lv_dup_x1 hC.1 hC.2.1 hd h1 h2 (k hC H ls locs hW hL hlo)
theorem V_goto {off : Int} (tgt : Nat) (hd : decode (q_cc M) pc = .ok (.goto off, 3)) (ht : (pc : Int) + off = (tgt : Int)) (k : V D C M tgt L st z f) : V D C M pc L st z f := fun hC H ls locs hW hL hlo => lv_goto hC.1 hC.2.1 hd ht (k hC H ls locs hW hL hlo)
theorem V_icmp_eq {x y : Int} {off : Int} (tgt : Nat) (hd : decode (q_cc M) pc = .ok (.if_icmp .eq off, 3)) (ht : (pc : Int) + off = (tgt : Int)) (hx : -2147483648 ≤ x ∧ x < 2147483648) (hy : -2147483648 ≤ y ∧ y < 2147483648) (kt : x = y → V D C M tgt L st z f) (kf : ¬ x = y → V D C M (pc + 3) L st z f) : V D C M pc L (vi y :: vi x :: st) z f := by
  intro hC H ls locs hW hL hlo
  refine lv_icmp_eq hC.1 hC.2.1 hd ht (fun h => kt ?_ hC H ls locs hW hL hlo) (fun h => kf ?_ hC H ls locs hW hL hlo)
  all_goals simp only [q_eq hx hy, q_lt hx hy, q_le hx hy, q_lt hy hx, q_le hy hx] at h; omega
theorem V_if_eq {x : Int} {off : Int} (tgt : Nat) (hd : decode (q_cc M) pc = .ok (.ifCond .eq off, 3)) (ht : (pc : Int) + off = (tgt : Int)) (hx : -2147483648 ≤ x ∧ x < 2147483648) (kt : x = 0 → V D C M tgt L st z f) (kf : ¬ x = 0 → V D C M (pc + 3) L st z f) : V D C M pc L (vi x :: st) z f := by
  intro hC H ls locs hW hL hlo
  refine lv_if_eq hC.1 hC.2.1 hd ht (fun h => kt ?_ hC H ls locs hW hL hlo) (fun h => kf ?_ hC H ls locs hW hL hlo)
  all_goals simp only [q_0, q_eq hx (y := 0) (by omega), q_lt hx (y := 0) (by omega), q_le hx (y := 0) (by omega), q_lt (x := 0) (by omega) hx, q_le (x := 0) (by omega) hx] at h; omega
theorem V_lcmp_eq {x y : Int} {off : Int} (tgt : Nat) (hd0 : decode (q_cc M) pc = .ok (.lcmp, 1)) (hd : decode (q_cc M) (pc + 1) = .ok (.ifCond .eq off, 3)) (ht : ((pc + 1 : Nat) : Int) + off = (tgt : Int)) (hx : -9223372036854775808 ≤ x ∧ x < 9223372036854775808) (hy : -9223372036854775808 ≤ y ∧ y < 9223372036854775808) (kt : x = y → V D C M tgt L st z f) (kf : ¬ x = y → V D C M (pc + 4) L st z f) : V D C M pc L (vl y :: vl x :: st) z f := by
  intro hC H ls locs hW hL hlo
  refine W.lcmp hC.1 hC.2.1 hd0 ?_
  refine lv_if_eq hC.1 hC.2.1 hd ht (fun h => kt ?_ hC H ls locs hW hL hlo) (fun h => kf ?_ hC H ls locs hW hL hlo)
  all_goals simp only [lg_cmp_eq, lg_cmp_lt, lg_cmp_le, lg_cmp_gt, lg_cmp_ge, q_leq hx hy, q_llt hx hy, q_lle hx hy, q_llt hy hx, q_lle hy hx] at h; omega
theorem V_icmp_ne {x y : Int} {off : Int} (tgt : Nat) (hd : decode (q_cc M) pc = .ok (.if_icmp .ne off, 3)) (ht : (pc : Int) + off = (tgt : Int)) (hx : -2147483648 ≤ x ∧ x < 2147483648) (hy : -2147483648 ≤ y ∧ y < 2147483648) (kt : ¬ x = y → V D C M tgt L st z f) (kf : x = y → V D C M (pc + 3) L st z f) : V D C M pc L (vi y :: vi x :: st) z f := by
  intro hC H ls locs hW hL hlo
  refine lv_icmp_ne hC.1 hC.2.1 hd ht (fun h => kt ?_ hC H ls locs hW hL hlo) (fun h => kf ?_ hC H ls locs hW hL hlo)
  all_goals simp only [q_eq hx hy, q_lt hx hy, q_le hx hy, q_lt hy hx, q_le hy hx] at h; omega
theorem V_if_ne {x : Int} {off : Int} (tgt : Nat) (hd : decode (q_cc M) pc = .ok (.ifCond .ne off, 3)) (ht : (pc : Int) + off = (tgt : Int)) (hx : -2147483648 ≤ x ∧ x < 2147483648) (kt : ¬ x = 0 → V D C M tgt L st z f) (kf : x = 0 → V D C M (pc + 3) L st z f) : V D C M pc L (vi x :: st) z f := by
  intro hC H ls locs hW hL hlo
  refine lv_if_ne hC.1 hC.2.1 hd ht (fun h => kt ?_ hC H ls locs hW hL hlo) (fun h => kf ?_ hC H ls locs hW hL hlo)
  all_goals simp only [q_0, q_eq hx (y := 0) (by omega), q_lt hx (y := 0) (by omega), q_le hx (y := 0) (by omega), q_lt (x := 0) (by omega) hx, q_le (x := 0) (by omega) hx] at h; omega
theorem V_lcmp_ne {x y : Int} {off : Int} (tgt : Nat) (hd0 : decode (q_cc M) pc = .ok (.lcmp, 1)) (hd : decode (q_cc M) (pc + 1) = .ok (.ifCond .ne off, 3)) (ht : ((pc + 1 : Nat) : Int) + off = (tgt : Int)) (hx : -9223372036854775808 ≤ x ∧ x < 9223372036854775808) (hy : -9223372036854775808 ≤ y ∧ y < 9223372036854775808) (kt : ¬ x = y → V D C M tgt L st z f) (kf : x = y → V D C M (pc + 4) L st z f) : V D C M pc L (vl y :: vl x :: st) z f := by
  intro hC H ls locs hW hL hlo
  refine W.lcmp hC.1 hC.2.1 hd0 ?_
  refine lv_if_ne hC.1 hC.2.1 hd ht (fun h => kt ?_ hC H ls locs hW hL hlo) (fun h => kf ?_ hC H ls locs hW hL hlo)
  all_goals simp only [lg_cmp_eq, lg_cmp_lt, lg_cmp_le, lg_cmp_gt, lg_cmp_ge, q_leq hx hy, q_llt hx hy, q_lle hx hy, q_llt hy hx, q_lle hy hx] at h; omega
theorem V_icmp_lt {x y : Int} {off : Int} (tgt : Nat) (hd : decode (q_cc M) pc = .ok (.if_icmp .lt off, 3)) (ht : (pc : Int) + off = (tgt : Int)) (hx : -2147483648 ≤ x ∧ x < 2147483648) (hy : -2147483648 ≤ y ∧ y < 2147483648) (kt : x < y → V D C M tgt L st z f) (kf : y ≤ x → V D C M (pc + 3) L st z f) : V D C M pc L (vi y :: vi x :: st) z f := by
  intro hC H ls locs hW hL hlo
  refine lv_icmp_lt hC.1 hC.2.1 hd ht (fun h => kt ?_ hC H ls locs hW hL hlo) (fun h => kf ?_ hC H ls locs hW hL hlo)
  all_goals simp only [q_eq hx hy, q_lt hx hy, q_le hx hy, q_lt hy hx, q_le hy hx] at h; omega
theorem V_if_lt {x : Int} {off : Int} (tgt : Nat) (hd : decode (q_cc M) pc = .ok (.ifCond .lt off, 3)) (ht : (pc : Int) + off = (tgt : Int)) (hx : -2147483648 ≤ x ∧ x < 2147483648) (kt : x < 0 → V D C M tgt L st z f) (kf : 0 ≤ x → V D C M (pc + 3) L st z f) : V D C M pc L (vi x :: st) z f := by
  intro hC H ls locs hW hL hlo
  refine lv_if_lt hC.1 hC.2.1 hd ht (fun h => kt ?_ hC H ls locs hW hL hlo) (fun h => kf ?_ hC H ls locs hW hL hlo)
  all_goals simp only [q_0, q_eq hx (y := 0) (by omega), q_lt hx (y := 0) (by omega), q_le hx (y := 0) (by omega), q_lt (x := 0) (by omega) hx, q_le (x := 0) (by omega) hx] at h; omega
theorem V_lcmp_lt {x y : Int} {off : Int} (tgt : Nat) (hd0 : decode (q_cc M) pc = .ok (.lcmp, 1)) (hd : decode (q_cc M) (pc + 1) = .ok (.ifCond .lt off, 3)) (ht : ((pc + 1 : Nat) : Int) + off = (tgt : Int)) (hx : -9223372036854775808 ≤ x ∧ x < 9223372036854775808) (hy : -9223372036854775808 ≤ y ∧ y < 9223372036854775808) (kt : x < y → V D C M tgt L st z f) (kf : y ≤ x → V D C M (pc + 4) L st z f) : V D C M pc L (vl y :: vl x :: st) z f := by
  intro hC H ls locs hW hL hlo
  refine W.lcmp hC.1 hC.2.1 hd0 ?_
  refine lv_if_lt hC.1 hC.2.1 hd ht (fun h => kt ?_ hC H ls locs hW hL hlo) (fun h => kf ?_ hC H ls locs hW hL hlo)
  all_goals simp only [lg_cmp_eq, lg_cmp_lt, lg_cmp_le, lg_cmp_gt, lg_cmp_ge, q_leq hx hy, q_llt hx hy, q_lle hx hy, q_llt hy hx, q_lle hy hx] at h; omega
theorem V_icmp_ge {x y : Int} {off : Int} (tgt : Nat) (hd : decode (q_cc M) pc = .ok (.if_icmp .ge off, 3)) (ht : (pc : Int) + off = (tgt : Int)) (hx : -2147483648 ≤ x ∧ x < 2147483648) (hy : -2147483648 ≤ y ∧ y < 2147483648) (kt : y ≤ x → V D C M tgt L st z f) (kf : x < y → V D C M (pc + 3) L st z f) : V D C M pc L (vi y :: vi x :: st) z f := by
  intro hC H ls locs hW hL hlo
  refine lv_icmp_ge hC.1 hC.2.1 hd ht (fun h => kt ?_ hC H ls locs hW hL hlo) (fun h => kf ?_ hC H ls locs hW hL hlo)
  all_goals simp only [q_eq hx hy, q_lt hx hy, q_le hx hy, q_lt hy hx, q_le hy hx] at h; omega
theorem V_if_ge {x : Int} {off : Int} (tgt : Nat) (hd : decode (q_cc M) pc = .ok (.ifCond .ge off, 3)) (ht : (pc : Int) + off = (tgt : Int)) (hx : -2147483648 ≤ x ∧ x < 2147483648) (kt : 0 ≤ x → V D C M tgt L st z f) (kf : x < 0 → V D C M (pc + 3) L st z f) : V D C M pc L (vi x :: st) z f := by
  intro hC H ls locs hW hL hlo
  refine lv_if_ge hC.1 hC.2.1 hd ht (fun h => kt ?_ hC H ls locs hW hL hlo) (fun h => kf ?_ hC H ls locs hW hL hlo)
  all_goals simp only [q_0, q_eq hx (y := 0) (by omega), q_lt hx (y := 0) (by omega), q_le hx (y := 0) (by omega), q_lt (x := 0) (by omega) hx, q_le (x := 0) (by omega) hx] at h; omega
theorem V_lcmp_ge {x y : Int} {off : Int} (tgt : Nat) (hd0 : decode (q_cc M) pc = .ok (.lcmp, 1)) (hd : decode (q_cc M) (pc + 1) = .ok (.ifCond .ge off, 3)) (ht : ((pc + 1 : Nat) : Int) + off = (tgt : Int)) (hx : -9223372036854775808 ≤ x ∧ x < 9223372036854775808) (hy : -9223372036854775808 ≤ y ∧ y < 9223372036854775808) (kt : y ≤ x → V D C M tgt L st z f) (kf : x < y → V D C M (pc + 4) L st z f) : V D C M pc L (vl y :: vl x :: st) z f := by
  intro hC H ls locs hW hL hlo
  refine W.lcmp hC.1 hC.2.1 hd0 ?_
  refine lv_if_ge hC.1 hC.2.1 hd ht (fun h => kt ?_ hC H ls locs hW hL hlo) (fun h => kf ?_ hC H ls locs hW hL hlo)
  all_goals simp only [lg_cmp_eq, lg_cmp_lt, lg_cmp_le, lg_cmp_gt, lg_cmp_ge, q_leq hx hy, q_llt hx hy, q_lle hx hy, q_llt hy hx, q_lle hy hx] at h; omega
theorem V_icmp_gt {x y : Int} {off : Int} (tgt : Nat) (hd : decode (q_cc M) pc = .ok (.if_icmp .gt off, 3)) (ht : (pc : Int) + off = (tgt : Int)) (hx : -2147483648 ≤ x ∧ x < 2147483648) (hy : -2147483648 ≤ y ∧ y < 2147483648) (kt : y < x → V D C M tgt L st z f) (kf : x ≤ y → V D C M (pc + 3) L st z f) : V D C M pc L (vi y :: vi x :: st) z f := by
  intro hC H ls locs hW hL hlo
  refine lv_icmp_gt hC.1 hC.2.1 hd ht (fun h => kt ?_ hC H ls locs hW hL hlo) (fun h => kf ?_ hC H ls locs hW hL hlo)
  all_goals simp only [q_eq hx hy, q_lt hx hy, q_le hx hy, q_lt hy hx, q_le hy hx] at h; omega
theorem V_if_gt {x : Int} {off : Int} (tgt : Nat) (hd : decode (q_cc M) pc = .ok (.ifCond .gt off, 3)) (ht : (pc : Int) + off = (tgt : Int)) (hx : -2147483648 ≤ x ∧ x < 2147483648) (kt : 0 < x → V D C M tgt L st z f) (kf : x ≤ 0 → V D C M (pc + 3) L st z f) : V D C M pc L (vi x :: st) z f := by
  intro hC H ls locs hW hL hlo
  refine lv_if_gt hC.1 hC.2.1 hd ht (fun h => kt ?_ hC H ls locs hW hL hlo) (fun h => kf ?_ hC H ls locs hW hL hlo)
  all_goals simp only [q_0, q_eq hx (y := 0) (by omega), q_lt hx (y := 0) (by omega), q_le hx (y := 0) (by omega), q_lt (x := 0) (by omega) hx, q_le (x := 0) (by omega) hx] at h; omega
theorem V_lcmp_gt {x y : Int} {off : Int} (tgt : Nat) (hd0 : decode (q_cc M) pc = .ok (.lcmp, 1)) (hd : decode (q_cc M) (pc + 1) = .ok (.ifCond .gt off, 3)) (ht : ((pc + 1 : Nat) : Int) + off = (tgt : Int)) (hx : -9223372036854775808 ≤ x ∧ x < 9223372036854775808) (hy : -9223372036854775808 ≤ y ∧ y < 9223372036854775808) (kt : y < x → V D C M tgt L st z f) (kf : x ≤ y → V D C M (pc + 4) L st z f) : V D C M pc L (vl y :: vl x :: st) z f := by
  intro hC H ls locs hW hL hlo
  refine W.lcmp hC.1 hC.2.1 hd0 ?_
  refine lv_if_gt hC.1 hC.2.1 hd ht (fun h => kt ?_ hC H ls locs hW hL hlo) (fun h => kf ?_ hC H ls locs hW hL hlo)
  all_goals simp only [lg_cmp_eq, lg_cmp_lt, lg_cmp_le, lg_cmp_gt, lg_cmp_ge, q_leq hx hy, q_llt hx hy, q_lle hx hy, q_llt hy hx, q_lle hy hx] at h; omega
theorem V_icmp_le {x y : Int} {off : Int} (tgt : Nat) (hd : decode (q_cc M) pc = .ok (.if_icmp .le off, 3)) (ht : (pc : Int) + off = (tgt : Int)) (hx : -2147483648 ≤ x ∧ x < 2147483648) (hy : -2147483648 ≤ y ∧ y < 2147483648) (kt : x ≤ y → V D C M tgt L st z f) (kf : y < x → V D C M (pc + 3) L st z f) : V D C M pc L (vi y :: vi x :: st) z f := by
  intro hC H ls locs hW hL hlo
  refine lv_icmp_le hC.1 hC.2.1 hd ht (fun h => kt ?_ hC H ls locs hW hL hlo) (fun h => kf ?_ hC H ls locs hW hL hlo)
  all_goals simp only [q_eq hx hy, q_lt hx hy, q_le hx hy, q_lt hy hx, q_le hy hx] at h; omega
theorem V_if_le {x : Int} {off : Int} (tgt : Nat) (hd : decode (q_cc M) pc = .ok (.ifCond .le off, 3)) (ht : (pc : Int) + off = (tgt : Int)) (hx : -2147483648 ≤ x ∧ x < 2147483648) (kt : x ≤ 0 → V D C M tgt L st z f) (kf : 0 < x → V D C M (pc + 3) L st z f) : V D C M pc L (vi x :: st) z f := by
  intro hC H ls locs hW hL hlo
  refine lv_if_le hC.1 hC.2.1 hd ht (fun h => kt ?_ hC H ls locs hW hL hlo) (fun h => kf ?_ hC H ls locs hW hL hlo)
  all_goals simp only [q_0, q_eq hx (y := 0) (by omega), q_lt hx (y := 0) (by omega), q_le hx (y := 0) (by omega), q_lt (x := 0) (by omega) hx, q_le (x := 0) (by omega) hx] at h; omega
theorem V_lcmp_le {x y : Int} {off : Int} (tgt : Nat) (hd0 : decode (q_cc M) pc = .ok (.lcmp, 1)) (hd : decode (q_cc M) (pc + 1) = .ok (.ifCond .le off, 3)) (ht : ((pc + 1 : Nat) : Int) + off = (tgt : Int)) (hx : -9223372036854775808 ≤ x ∧ x < 9223372036854775808) (hy : -9223372036854775808 ≤ y ∧ y < 9223372036854775808) (kt : x ≤ y → V D C M tgt L st z f) (kf : y < x → V D C M (pc + 4) L st z f) : V D C M pc L (vl y :: vl x :: st) z f := by
  intro hC H ls locs hW hL hlo
  refine W.lcmp hC.1 hC.2.1 hd0 ?_
  refine lv_if_le hC.1 hC.2.1 hd ht (fun h => kt ?_ hC H ls locs hW hL hlo) (fun h => kf ?_ hC H ls locs hW hL hlo)
  all_goals simp only [lg_cmp_eq, lg_cmp_lt, lg_cmp_le, lg_cmp_gt, lg_cmp_ge, q_leq hx hy, q_llt hx hy, q_lle hx hy, q_llt hy hx, q_lle hy hx] at h; omega
theorem q_ne_i (x : Int) : vi x ≠ vu := by unfold vi vu; intro h; cases h
theorem q_ne_l (x : Int) : vl x ≠ vu := by unfold vl vu; intro h; cases h
theorem q_ne_r (D : q_D) (x : Int) : vr D x ≠ vu := by unfold vr vu; intro h; cases h
theorem q_sto1 {L : List Value} {ls : Array Slot} {n i : Nat} {v : Value} {ls' : Array Slot} (hL : q_L L ls n) (hp : ∀ k a, k + 1 = i → L[k]? = some a → a.category = 1) (h : lv_has ls' n ((i, v) :: (q_lv L).filter (fun q => !(q.1 == i) && !(q.1 + 1 == i && q.2.category == 2)))) : q_L (L.set i v) ls' n := by
  refine ⟨by rw [List.length_set]; exact hL.1, h.1, h.2.1, ?_⟩
  rintro ⟨k, w⟩ hkw
  obtain ⟨h1, h2⟩ := q_lv_mem.mp hkw
  rw [List.getElem?_set] at h1
  split at h1
  · next e =>
    subst e
    split at h1
    · cases h1; exact h.2.2 _ List.mem_cons_self
    · cases h1
  · next e =>
    refine h.2.2 _ (List.mem_cons_of_mem _ (List.mem_filter.mpr ⟨q_lv_mem.mpr ⟨h1, h2⟩, ?_⟩))
    have hc : k + 1 = i → w.category = 1 := fun e2 => hp k w e2 h1
    by_cases e2 : k + 1 = i
    · have := hc e2
      simp [this]; omega
    · simp [e2]; omega
theorem q_sto2 {L : List Value} {ls : Array Slot} {n i : Nat} {v : Value} {ls' : Array Slot} (hL : q_L L ls n) (hp : ∀ k a, k + 1 = i → L[k]? = some a → a.category = 1) (h : lv_has ls' n ((i, v) :: (q_lv L).filter (fun q => !(q.1 == i) && (!(q.1 == i + 1) && !(q.1 + 1 == i && q.2.category == 2))))) : q_L ((L.set i v).set (i + 1) vu) ls' n := by
  refine ⟨by rw [List.length_set, List.length_set]; exact hL.1, h.1, h.2.1, ?_⟩
  rintro ⟨k, w⟩ hkw
  obtain ⟨h1, h2⟩ := q_lv_mem.mp hkw
  rw [List.getElem?_set] at h1
  split at h1
  · next e =>
    split at h1
    · cases h1; exact absurd rfl h2
    · cases h1
  · next e0 =>
    rw [List.getElem?_set] at h1
    split at h1
    · next e =>
      subst e
      split at h1
      · cases h1; exact h.2.2 _ List.mem_cons_self
      · cases h1
    · next e =>
      refine h.2.2 _ (List.mem_cons_of_mem _ (List.mem_filter.mpr ⟨q_lv_mem.mpr ⟨h1, h2⟩, ?_⟩))
      have hc : k + 1 = i → w.category = 1 := fun e2 => hp k w e2 h1
      by_cases e2 : k + 1 = i
      · have := hc e2
        simp [this]; omega
      · simp [e2]; omega
theorem V_iload_0 {r : List Value} {x : Int} (hd : decode (q_cc M) pc = .ok (.iload_n 0, 1)) (k : V D C M (pc + 1) (vi x :: r) (vi x :: st) z f) : V D C M pc (vi x :: r) st z f := fun hC H ls locs hW hL hlo => lv_iload_n hC.1 hC.2.1 hd rfl (hL.at (k := 0) rfl (q_ne_i x)) (k hC H ls locs hW hL hlo)
theorem V_lload_0 {r : List Value} {x : Int} (hd : decode (q_cc M) pc = .ok (.lload_n 0, 1)) (k : V D C M (pc + 1) (vl x :: r) (vl x :: st) z f) : V D C M pc (vl x :: r) st z f := fun hC H ls locs hW hL hlo => lv_lload_n hC.1 hC.2.1 hd rfl (hL.at (k := 0) rfl (q_ne_l x)) (k hC H ls locs hW hL hlo)
theorem V_aload_0 {r : List Value} {x : Int} (hd : decode (q_cc M) pc = .ok (.aload_n 0, 1)) (k : V D C M (pc + 1) (vr D x :: r) (vr D x :: st) z f) : V D C M pc (vr D x :: r) st z f := fun hC H ls locs hW hL hlo => lv_aload_n hC.1 hC.2.1 hd rfl (hL.at (k := 0) rfl (q_ne_r D x)) (k hC H ls locs hW hL hlo)
theorem V_istore_0 {b : Value} {r : List Value} {x : Int} (hd : decode (q_cc M) pc = .ok (.istore_n 0, 1)) (k : V D C M (pc + 1) (vi x :: r) st z f) : V D C M pc (b :: r) (vi x :: st) z f := fun hC H ls locs hW hL hlo => lv_istore_n hC.1 hC.2.1 hd rfl hL.2 (by have := hL.1; simp only [List.length_cons] at this; omega) rfl (fun ls' hl' => k hC H ls' locs hW (q_sto1 hL (fun k a e g => by omega) hl') hlo)
theorem V_astore_0 {b : Value} {r : List Value} {x : Int} (hd : decode (q_cc M) pc = .ok (.astore_n 0, 1)) (k : V D C M (pc + 1) (vr D x :: r) st z f) : V D C M pc (b :: r) (vr D x :: st) z f := fun hC H ls locs hW hL hlo => lv_astore_n hC.1 hC.2.1 hd rfl hL.2 (by have := hL.1; simp only [List.length_cons] at this; omega) rfl (fun ls' hl' => k hC H ls' locs hW (q_sto1 hL (fun k a e g => by omega) hl') hlo)
theorem V_lstore_0 {b b2 : Value} {r : List Value} {x : Int} (hd : decode (q_cc M) pc = .ok (.lstore_n 0, 1)) (k : V D C M (pc + 1) (vl x :: vu :: r) st z f) : V D C M pc (b :: b2 :: r) (vl x :: st) z f := fun hC H ls locs hW hL hlo => lv_lstore_n hC.1 hC.2.1 hd rfl hL.2 (by have := hL.1; simp only [List.length_cons] at this; omega) rfl (fun ls' hl' => k hC H ls' locs hW (q_sto2 hL (fun k a e g => by omega) hl') hlo)
theorem V_iinc_0 {r : List Value} {x n : Int} (hd : decode (q_cc M) pc = .ok (.iinc 0 n, 3)) (k : V D C M (pc + 3) (vi (x + n) :: r) st z f) : V D C M pc (vi x :: r) st z f := fun hC H ls locs hW hL hlo => by
  obtain ⟨j, hj⟩ := List.getElem?_of_mem (q_lv_mem.mpr ⟨(rfl : (vi x :: r)[0]? = some (vi x)), q_ne_i x⟩)
  exact lv_iinc (v := Int32.ofInt (x + n)) hC.1 hC.2.1 hd hL.2 hj (Int32.ofInt_add x n).symm (by have := hL.1; simp only [List.length_cons] at this; omega) rfl (fun ls' hl' => k hC H ls' locs hW (q_sto1 hL (fun k a e g => by omega) hl') hlo)
theorem V_iload_1 {a0 : Value} {r : List Value} {x : Int} (hd : decode (q_cc M) pc = .ok (.iload_n 1, 1)) (k : V D C M (pc + 1) (a0 :: vi x :: r) (vi x :: st) z f) : V D C M pc (a0 :: vi x :: r) st z f := fun hC H ls locs hW hL hlo => lv_iload_n hC.1 hC.2.1 hd rfl (hL.at (k := 1) rfl (q_ne_i x)) (k hC H ls locs hW hL hlo)
theorem V_lload_1 {a0 : Value} {r : List Value} {x : Int} (hd : decode (q_cc M) pc = .ok (.lload_n 1, 1)) (k : V D C M (pc + 1) (a0 :: vl x :: r) (vl x :: st) z f) : V D C M pc (a0 :: vl x :: r) st z f := fun hC H ls locs hW hL hlo => lv_lload_n hC.1 hC.2.1 hd rfl (hL.at (k := 1) rfl (q_ne_l x)) (k hC H ls locs hW hL hlo)
theorem V_aload_1 {a0 : Value} {r : List Value} {x : Int} (hd : decode (q_cc M) pc = .ok (.aload_n 1, 1)) (k : V D C M (pc + 1) (a0 :: vr D x :: r) (vr D x :: st) z f) : V D C M pc (a0 :: vr D x :: r) st z f := fun hC H ls locs hW hL hlo => lv_aload_n hC.1 hC.2.1 hd rfl (hL.at (k := 1) rfl (q_ne_r D x)) (k hC H ls locs hW hL hlo)
theorem V_istore_1 {a0 : Value} {b : Value} {r : List Value} {x : Int} (hd : decode (q_cc M) pc = .ok (.istore_n 1, 1)) (hp : a0.category = 1) (k : V D C M (pc + 1) (a0 :: vi x :: r) st z f) : V D C M pc (a0 :: b :: r) (vi x :: st) z f := fun hC H ls locs hW hL hlo => lv_istore_n hC.1 hC.2.1 hd rfl hL.2 (by have := hL.1; simp only [List.length_cons] at this; omega) rfl (fun ls' hl' => k hC H ls' locs hW (q_sto1 hL (fun k a e g => by cases e; cases g; exact hp) hl') hlo)
theorem V_astore_1 {a0 : Value} {b : Value} {r : List Value} {x : Int} (hd : decode (q_cc M) pc = .ok (.astore_n 1, 1)) (hp : a0.category = 1) (k : V D C M (pc + 1) (a0 :: vr D x :: r) st z f) : V D C M pc (a0 :: b :: r) (vr D x :: st) z f := fun hC H ls locs hW hL hlo => lv_astore_n hC.1 hC.2.1 hd rfl hL.2 (by have := hL.1; simp only [List.length_cons] at this; omega) rfl (fun ls' hl' => k hC H ls' locs hW (q_sto1 hL (fun k a e g => by cases e; cases g; exact hp) hl') hlo)
theorem V_lstore_1 {a0 : Value} {b b2 : Value} {r : List Value} {x : Int} (hd : decode (q_cc M) pc = .ok (.lstore_n 1, 1)) (hp : a0.category = 1) (k : V D C M (pc + 1) (a0 :: vl x :: vu :: r) st z f) : V D C M pc (a0 :: b :: b2 :: r) (vl x :: st) z f := fun hC H ls locs hW hL hlo => lv_lstore_n hC.1 hC.2.1 hd rfl hL.2 (by have := hL.1; simp only [List.length_cons] at this; omega) rfl (fun ls' hl' => k hC H ls' locs hW (q_sto2 hL (fun k a e g => by cases e; cases g; exact hp) hl') hlo)
theorem V_iinc_1 {a0 : Value} {r : List Value} {x n : Int} (hd : decode (q_cc M) pc = .ok (.iinc 1 n, 3)) (hp : a0.category = 1) (k : V D C M (pc + 3) (a0 :: vi (x + n) :: r) st z f) : V D C M pc (a0 :: vi x :: r) st z f := fun hC H ls locs hW hL hlo => by
  obtain ⟨j, hj⟩ := List.getElem?_of_mem (q_lv_mem.mpr ⟨(rfl : (a0 :: vi x :: r)[1]? = some (vi x)), q_ne_i x⟩)
  exact lv_iinc (v := Int32.ofInt (x + n)) hC.1 hC.2.1 hd hL.2 hj (Int32.ofInt_add x n).symm (by have := hL.1; simp only [List.length_cons] at this; omega) rfl (fun ls' hl' => k hC H ls' locs hW (q_sto1 hL (fun k a e g => by cases e; cases g; exact hp) hl') hlo)
theorem V_iload_2 {a0 a1 : Value} {r : List Value} {x : Int} (hd : decode (q_cc M) pc = .ok (.iload_n 2, 1)) (k : V D C M (pc + 1) (a0 :: a1 :: vi x :: r) (vi x :: st) z f) : V D C M pc (a0 :: a1 :: vi x :: r) st z f := fun hC H ls locs hW hL hlo => lv_iload_n hC.1 hC.2.1 hd rfl (hL.at (k := 2) rfl (q_ne_i x)) (k hC H ls locs hW hL hlo)
theorem V_lload_2 {a0 a1 : Value} {r : List Value} {x : Int} (hd : decode (q_cc M) pc = .ok (.lload_n 2, 1)) (k : V D C M (pc + 1) (a0 :: a1 :: vl x :: r) (vl x :: st) z f) : V D C M pc (a0 :: a1 :: vl x :: r) st z f := fun hC H ls locs hW hL hlo => lv_lload_n hC.1 hC.2.1 hd rfl (hL.at (k := 2) rfl (q_ne_l x)) (k hC H ls locs hW hL hlo)
theorem V_aload_2 {a0 a1 : Value} {r : List Value} {x : Int} (hd : decode (q_cc M) pc = .ok (.aload_n 2, 1)) (k : V D C M (pc + 1) (a0 :: a1 :: vr D x :: r) (vr D x :: st) z f) : V D C M pc (a0 :: a1 :: vr D x :: r) st z f := fun hC H ls locs hW hL hlo => lv_aload_n hC.1 hC.2.1 hd rfl (hL.at (k := 2) rfl (q_ne_r D x)) (k hC H ls locs hW hL hlo)
theorem V_istore_2 {a0 a1 : Value} {b : Value} {r : List Value} {x : Int} (hd : decode (q_cc M) pc = .ok (.istore_n 2, 1)) (hp : a1.category = 1) (k : V D C M (pc + 1) (a0 :: a1 :: vi x :: r) st z f) : V D C M pc (a0 :: a1 :: b :: r) (vi x :: st) z f := fun hC H ls locs hW hL hlo => lv_istore_n hC.1 hC.2.1 hd rfl hL.2 (by have := hL.1; simp only [List.length_cons] at this; omega) rfl (fun ls' hl' => k hC H ls' locs hW (q_sto1 hL (fun k a e g => by cases e; cases g; exact hp) hl') hlo)
theorem V_astore_2 {a0 a1 : Value} {b : Value} {r : List Value} {x : Int} (hd : decode (q_cc M) pc = .ok (.astore_n 2, 1)) (hp : a1.category = 1) (k : V D C M (pc + 1) (a0 :: a1 :: vr D x :: r) st z f) : V D C M pc (a0 :: a1 :: b :: r) (vr D x :: st) z f := fun hC H ls locs hW hL hlo => lv_astore_n hC.1 hC.2.1 hd rfl hL.2 (by have := hL.1; simp only [List.length_cons] at this; omega) rfl (fun ls' hl' => k hC H ls' locs hW (q_sto1 hL (fun k a e g => by cases e; cases g; exact hp) hl') hlo)
theorem V_lstore_2 {a0 a1 : Value} {b b2 : Value} {r : List Value} {x : Int} (hd : decode (q_cc M) pc = .ok (.lstore_n 2, 1)) (hp : a1.category = 1) (k : V D C M (pc + 1) (a0 :: a1 :: vl x :: vu :: r) st z f) : V D C M pc (a0 :: a1 :: b :: b2 :: r) (vl x :: st) z f := fun hC H ls locs hW hL hlo => lv_lstore_n hC.1 hC.2.1 hd rfl hL.2 (by have := hL.1; simp only [List.length_cons] at this; omega) rfl (fun ls' hl' => k hC H ls' locs hW (q_sto2 hL (fun k a e g => by cases e; cases g; exact hp) hl') hlo)
theorem V_iinc_2 {a0 a1 : Value} {r : List Value} {x n : Int} (hd : decode (q_cc M) pc = .ok (.iinc 2 n, 3)) (hp : a1.category = 1) (k : V D C M (pc + 3) (a0 :: a1 :: vi (x + n) :: r) st z f) : V D C M pc (a0 :: a1 :: vi x :: r) st z f := fun hC H ls locs hW hL hlo => by
  obtain ⟨j, hj⟩ := List.getElem?_of_mem (q_lv_mem.mpr ⟨(rfl : (a0 :: a1 :: vi x :: r)[2]? = some (vi x)), q_ne_i x⟩)
  exact lv_iinc (v := Int32.ofInt (x + n)) hC.1 hC.2.1 hd hL.2 hj (Int32.ofInt_add x n).symm (by have := hL.1; simp only [List.length_cons] at this; omega) rfl (fun ls' hl' => k hC H ls' locs hW (q_sto1 hL (fun k a e g => by cases e; cases g; exact hp) hl') hlo)
theorem V_iload_3 {a0 a1 a2 : Value} {r : List Value} {x : Int} (hd : decode (q_cc M) pc = .ok (.iload_n 3, 1)) (k : V D C M (pc + 1) (a0 :: a1 :: a2 :: vi x :: r) (vi x :: st) z f) : V D C M pc (a0 :: a1 :: a2 :: vi x :: r) st z f := fun hC H ls locs hW hL hlo => lv_iload_n hC.1 hC.2.1 hd rfl (hL.at (k := 3) rfl (q_ne_i x)) (k hC H ls locs hW hL hlo)
theorem V_lload_3 {a0 a1 a2 : Value} {r : List Value} {x : Int} (hd : decode (q_cc M) pc = .ok (.lload_n 3, 1)) (k : V D C M (pc + 1) (a0 :: a1 :: a2 :: vl x :: r) (vl x :: st) z f) : V D C M pc (a0 :: a1 :: a2 :: vl x :: r) st z f := fun hC H ls locs hW hL hlo => lv_lload_n hC.1 hC.2.1 hd rfl (hL.at (k := 3) rfl (q_ne_l x)) (k hC H ls locs hW hL hlo)
theorem V_aload_3 {a0 a1 a2 : Value} {r : List Value} {x : Int} (hd : decode (q_cc M) pc = .ok (.aload_n 3, 1)) (k : V D C M (pc + 1) (a0 :: a1 :: a2 :: vr D x :: r) (vr D x :: st) z f) : V D C M pc (a0 :: a1 :: a2 :: vr D x :: r) st z f := fun hC H ls locs hW hL hlo => lv_aload_n hC.1 hC.2.1 hd rfl (hL.at (k := 3) rfl (q_ne_r D x)) (k hC H ls locs hW hL hlo)
theorem V_istore_3 {a0 a1 a2 : Value} {b : Value} {r : List Value} {x : Int} (hd : decode (q_cc M) pc = .ok (.istore_n 3, 1)) (hp : a2.category = 1) (k : V D C M (pc + 1) (a0 :: a1 :: a2 :: vi x :: r) st z f) : V D C M pc (a0 :: a1 :: a2 :: b :: r) (vi x :: st) z f := fun hC H ls locs hW hL hlo => lv_istore_n hC.1 hC.2.1 hd rfl hL.2 (by have := hL.1; simp only [List.length_cons] at this; omega) rfl (fun ls' hl' => k hC H ls' locs hW (q_sto1 hL (fun k a e g => by cases e; cases g; exact hp) hl') hlo)
theorem V_astore_3 {a0 a1 a2 : Value} {b : Value} {r : List Value} {x : Int} (hd : decode (q_cc M) pc = .ok (.astore_n 3, 1)) (hp : a2.category = 1) (k : V D C M (pc + 1) (a0 :: a1 :: a2 :: vr D x :: r) st z f) : V D C M pc (a0 :: a1 :: a2 :: b :: r) (vr D x :: st) z f := fun hC H ls locs hW hL hlo => lv_astore_n hC.1 hC.2.1 hd rfl hL.2 (by have := hL.1; simp only [List.length_cons] at this; omega) rfl (fun ls' hl' => k hC H ls' locs hW (q_sto1 hL (fun k a e g => by cases e; cases g; exact hp) hl') hlo)
theorem V_lstore_3 {a0 a1 a2 : Value} {b b2 : Value} {r : List Value} {x : Int} (hd : decode (q_cc M) pc = .ok (.lstore_n 3, 1)) (hp : a2.category = 1) (k : V D C M (pc + 1) (a0 :: a1 :: a2 :: vl x :: vu :: r) st z f) : V D C M pc (a0 :: a1 :: a2 :: b :: b2 :: r) (vl x :: st) z f := fun hC H ls locs hW hL hlo => lv_lstore_n hC.1 hC.2.1 hd rfl hL.2 (by have := hL.1; simp only [List.length_cons] at this; omega) rfl (fun ls' hl' => k hC H ls' locs hW (q_sto2 hL (fun k a e g => by cases e; cases g; exact hp) hl') hlo)
theorem V_iinc_3 {a0 a1 a2 : Value} {r : List Value} {x n : Int} (hd : decode (q_cc M) pc = .ok (.iinc 3 n, 3)) (hp : a2.category = 1) (k : V D C M (pc + 3) (a0 :: a1 :: a2 :: vi (x + n) :: r) st z f) : V D C M pc (a0 :: a1 :: a2 :: vi x :: r) st z f := fun hC H ls locs hW hL hlo => by
  obtain ⟨j, hj⟩ := List.getElem?_of_mem (q_lv_mem.mpr ⟨(rfl : (a0 :: a1 :: a2 :: vi x :: r)[3]? = some (vi x)), q_ne_i x⟩)
  exact lv_iinc (v := Int32.ofInt (x + n)) hC.1 hC.2.1 hd hL.2 hj (Int32.ofInt_add x n).symm (by have := hL.1; simp only [List.length_cons] at this; omega) rfl (fun ls' hl' => k hC H ls' locs hW (q_sto1 hL (fun k a e g => by cases e; cases g; exact hp) hl') hlo)
theorem V_iload_4 {a0 a1 a2 a3 : Value} {r : List Value} {x : Int} (hd : decode (q_cc M) pc = .ok (.iload 4, 2)) (k : V D C M (pc + 2) (a0 :: a1 :: a2 :: a3 :: vi x :: r) (vi x :: st) z f) : V D C M pc (a0 :: a1 :: a2 :: a3 :: vi x :: r) st z f := fun hC H ls locs hW hL hlo => lv_iload hC.1 hC.2.1 hd (hL.at (k := 4) rfl (q_ne_i x)) (k hC H ls locs hW hL hlo)
theorem V_lload_4 {a0 a1 a2 a3 : Value} {r : List Value} {x : Int} (hd : decode (q_cc M) pc = .ok (.lload 4, 2)) (k : V D C M (pc + 2) (a0 :: a1 :: a2 :: a3 :: vl x :: r) (vl x :: st) z f) : V D C M pc (a0 :: a1 :: a2 :: a3 :: vl x :: r) st z f := fun hC H ls locs hW hL hlo => lv_lload hC.1 hC.2.1 hd (hL.at (k := 4) rfl (q_ne_l x)) (k hC H ls locs hW hL hlo)
theorem V_aload_4 {a0 a1 a2 a3 : Value} {r : List Value} {x : Int} (hd : decode (q_cc M) pc = .ok (.aload 4, 2)) (k : V D C M (pc + 2) (a0 :: a1 :: a2 :: a3 :: vr D x :: r) (vr D x :: st) z f) : V D C M pc (a0 :: a1 :: a2 :: a3 :: vr D x :: r) st z f := fun hC H ls locs hW hL hlo => lv_aload hC.1 hC.2.1 hd (hL.at (k := 4) rfl (q_ne_r D x)) (k hC H ls locs hW hL hlo)
theorem V_istore_4 {a0 a1 a2 a3 : Value} {b : Value} {r : List Value} {x : Int} (hd : decode (q_cc M) pc = .ok (.istore 4, 2)) (hp : a3.category = 1) (k : V D C M (pc + 2) (a0 :: a1 :: a2 :: a3 :: vi x :: r) st z f) : V D C M pc (a0 :: a1 :: a2 :: a3 :: b :: r) (vi x :: st) z f := fun hC H ls locs hW hL hlo => lv_istore hC.1 hC.2.1 hd hL.2 (by have := hL.1; simp only [List.length_cons] at this; omega) rfl (fun ls' hl' => k hC H ls' locs hW (q_sto1 hL (fun k a e g => by cases e; cases g; exact hp) hl') hlo)
theorem V_astore_4 {a0 a1 a2 a3 : Value} {b : Value} {r : List Value} {x : Int} (hd : decode (q_cc M) pc = .ok (.astore 4, 2)) (hp : a3.category = 1) (k : V D C M (pc + 2) (a0 :: a1 :: a2 :: a3 :: vr D x :: r) st z f) : V D C M pc (a0 :: a1 :: a2 :: a3 :: b :: r) (vr D x :: st) z f := fun hC H ls locs hW hL hlo => lv_astore hC.1 hC.2.1 hd hL.2 (by have := hL.1; simp only [List.length_cons] at this; omega) rfl (fun ls' hl' => k hC H ls' locs hW (q_sto1 hL (fun k a e g => by cases e; cases g; exact hp) hl') hlo)
theorem V_lstore_4 {a0 a1 a2 a3 : Value} {b b2 : Value} {r : List Value} {x : Int} (hd : decode (q_cc M) pc = .ok (.lstore 4, 2)) (hp : a3.category = 1) (k : V D C M (pc + 2) (a0 :: a1 :: a2 :: a3 :: vl x :: vu :: r) st z f) : V D C M pc (a0 :: a1 :: a2 :: a3 :: b :: b2 :: r) (vl x :: st) z f := fun hC H ls locs hW hL hlo => lv_lstore hC.1 hC.2.1 hd hL.2 (by have := hL.1; simp only [List.length_cons] at this; omega) rfl (fun ls' hl' => k hC H ls' locs hW (q_sto2 hL (fun k a e g => by cases e; cases g; exact hp) hl') hlo)
theorem V_iinc_4 {a0 a1 a2 a3 : Value} {r : List Value} {x n : Int} (hd : decode (q_cc M) pc = .ok (.iinc 4 n, 3)) (hp : a3.category = 1) (k : V D C M (pc + 3) (a0 :: a1 :: a2 :: a3 :: vi (x + n) :: r) st z f) : V D C M pc (a0 :: a1 :: a2 :: a3 :: vi x :: r) st z f := fun hC H ls locs hW hL hlo => by
  obtain ⟨j, hj⟩ := List.getElem?_of_mem (q_lv_mem.mpr ⟨(rfl : (a0 :: a1 :: a2 :: a3 :: vi x :: r)[4]? = some (vi x)), q_ne_i x⟩)
  exact lv_iinc (v := Int32.ofInt (x + n)) hC.1 hC.2.1 hd hL.2 hj (Int32.ofInt_add x n).symm (by have := hL.1; simp only [List.length_cons] at this; omega) rfl (fun ls' hl' => k hC H ls' locs hW (q_sto1 hL (fun k a e g => by cases e; cases g; exact hp) hl') hlo)
theorem V_iload_5 {a0 a1 a2 a3 a4 : Value} {r : List Value} {x : Int} (hd : decode (q_cc M) pc = .ok (.iload 5, 2)) (k : V D C M (pc + 2) (a0 :: a1 :: a2 :: a3 :: a4 :: vi x :: r) (vi x :: st) z f) : V D C M pc (a0 :: a1 :: a2 :: a3 :: a4 :: vi x :: r) st z f := fun hC H ls locs hW hL hlo => lv_iload hC.1 hC.2.1 hd (hL.at (k := 5) rfl (q_ne_i x)) (k hC H ls locs hW hL hlo)
theorem V_lload_5 {a0 a1 a2 a3 a4 : Value} {r : List Value} {x : Int} (hd : decode (q_cc M) pc = .ok (.lload 5, 2)) (k : V D C M (pc + 2) (a0 :: a1 :: a2 :: a3 :: a4 :: vl x :: r) (vl x :: st) z f) : V D C M pc (a0 :: a1 :: a2 :: a3 :: a4 :: vl x :: r) st z f := fun hC H ls locs hW hL hlo => lv_lload hC.1 hC.2.1 hd (hL.at (k := 5) rfl (q_ne_l x)) (k hC H ls locs hW hL hlo)
theorem V_aload_5 {a0 a1 a2 a3 a4 : Value} {r : List Value} {x : Int} (hd : decode (q_cc M) pc = .ok (.aload 5, 2)) (k : V D C M (pc + 2) (a0 :: a1 :: a2 :: a3 :: a4 :: vr D x :: r) (vr D x :: st) z f) : V D C M pc (a0 :: a1 :: a2 :: a3 :: a4 :: vr D x :: r) st z f := fun hC H ls locs hW hL hlo => lv_aload hC.1 hC.2.1 hd (hL.at (k := 5) rfl (q_ne_r D x)) (k hC H ls locs hW hL hlo)
theorem V_istore_5 {a0 a1 a2 a3 a4 : Value} {b : Value} {r : List Value} {x : Int} (hd : decode (q_cc M) pc = .ok (.istore 5, 2)) (hp : a4.category = 1) (k : V D C M (pc + 2) (a0 :: a1 :: a2 :: a3 :: a4 :: vi x :: r) st z f) : V D C M pc (a0 :: a1 :: a2 :: a3 :: a4 :: b :: r) (vi x :: st) z f := fun hC H ls locs hW hL hlo => lv_istore hC.1 hC.2.1 hd hL.2 (by have := hL.1; simp only [List.length_cons] at this; omega) rfl (fun ls' hl' => k hC H ls' locs hW (q_sto1 hL (fun k a e g => by cases e; cases g; exact hp) hl') hlo)
theorem V_astore_5 {a0 a1 a2 a3 a4 : Value} {b : Value} {r : List Value} {x : Int} (hd : decode (q_cc M) pc = .ok (.astore 5, 2)) (hp : a4.category = 1) (k : V D C M (pc + 2) (a0 :: a1 :: a2 :: a3 :: a4 :: vr D x :: r) st z f) : V D C M pc (a0 :: a1 :: a2 :: a3 :: a4 :: b :: r) (vr D x :: st) z f := fun hC H ls locs hW hL hlo => lv_astore hC.1 hC.2.1 hd hL.2 (by have := hL.1; simp only [List.length_cons] at this; omega) rfl (fun ls' hl' => k hC H ls' locs hW (q_sto1 hL (fun k a e g => by cases e; cases g; exact hp) hl') hlo)
theorem V_lstore_5 {a0 a1 a2 a3 a4 : Value} {b b2 : Value} {r : List Value} {x : Int} (hd : decode (q_cc M) pc = .ok (.lstore 5, 2)) (hp : a4.category = 1) (k : V D C M (pc + 2) (a0 :: a1 :: a2 :: a3 :: a4 :: vl x :: vu :: r) st z f) : V D C M pc (a0 :: a1 :: a2 :: a3 :: a4 :: b :: b2 :: r) (vl x :: st) z f := fun hC H ls locs hW hL hlo => lv_lstore hC.1 hC.2.1 hd hL.2 (by have := hL.1; simp only [List.length_cons] at this; omega) rfl (fun ls' hl' => k hC H ls' locs hW (q_sto2 hL (fun k a e g => by cases e; cases g; exact hp) hl') hlo)
theorem V_iinc_5 {a0 a1 a2 a3 a4 : Value} {r : List Value} {x n : Int} (hd : decode (q_cc M) pc = .ok (.iinc 5 n, 3)) (hp : a4.category = 1) (k : V D C M (pc + 3) (a0 :: a1 :: a2 :: a3 :: a4 :: vi (x + n) :: r) st z f) : V D C M pc (a0 :: a1 :: a2 :: a3 :: a4 :: vi x :: r) st z f := fun hC H ls locs hW hL hlo => by
  obtain ⟨j, hj⟩ := List.getElem?_of_mem (q_lv_mem.mpr ⟨(rfl : (a0 :: a1 :: a2 :: a3 :: a4 :: vi x :: r)[5]? = some (vi x)), q_ne_i x⟩)
  exact lv_iinc (v := Int32.ofInt (x + n)) hC.1 hC.2.1 hd hL.2 hj (Int32.ofInt_add x n).symm (by have := hL.1; simp only [List.length_cons] at this; omega) rfl (fun ls' hl' => k hC H ls' locs hW (q_sto1 hL (fun k a e g => by cases e; cases g; exact hp) hl') hlo)
theorem V_iload_6 {a0 a1 a2 a3 a4 a5 : Value} {r : List Value} {x : Int} (hd : decode (q_cc M) pc = .ok (.iload 6, 2)) (k : V D C M (pc + 2) (a0 :: a1 :: a2 :: a3 :: a4 :: a5 :: vi x :: r) (vi x :: st) z f) : V D C M pc (a0 :: a1 :: a2 :: a3 :: a4 :: a5 :: vi x :: r) st z f := fun hC H ls locs hW hL hlo => lv_iload hC.1 hC.2.1 hd (hL.at (k := 6) rfl (q_ne_i x)) (k hC H ls locs hW hL hlo)
theorem V_lload_6 {a0 a1 a2 a3 a4 a5 : Value} {r : List Value} {x : Int} (hd : decode (q_cc M) pc = .ok (.lload 6, 2)) (k : V D C M (pc + 2) (a0 :: a1 :: a2 :: a3 :: a4 :: a5 :: vl x :: r) (vl x :: st) z f) : V D C M pc (a0 :: a1 :: a2 :: a3 :: a4 :: a5 :: vl x :: r) st z f := fun hC H ls locs hW hL hlo => lv_lload hC.1 hC.2.1 hd (hL.at (k := 6) rfl (q_ne_l x)) (k hC H ls locs hW hL hlo)
theorem V_aload_6 {a0 a1 a2 a3 a4 a5 : Value} {r : List Value} {x : Int} (hd : decode (q_cc M) pc = .ok (.aload 6, 2)) (k : V D C M (pc + 2) (a0 :: a1 :: a2 :: a3 :: a4 :: a5 :: vr D x :: r) (vr D x :: st) z f) : V D C M pc (a0 :: a1 :: a2 :: a3 :: a4 :: a5 :: vr D x :: r) st z f := fun hC H ls locs hW hL hlo => lv_aload hC.1 hC.2.1 hd (hL.at (k := 6) rfl (q_ne_r D x)) (k hC H ls locs hW hL hlo)
theorem V_istore_6 {a0 a1 a2 a3 a4 a5 : Value} {b : Value} {r : List Value} {x : Int} (hd : decode (q_cc M) pc = .ok (.istore 6, 2)) (hp : a5.category = 1) (k : V D C M (pc + 2) (a0 :: a1 :: a2 :: a3 :: a4 :: a5 :: vi x :: r) st z f) : V D C M pc (a0 :: a1 :: a2 :: a3 :: a4 :: a5 :: b :: r) (vi x :: st) z f := fun hC H ls locs hW hL hlo => lv_istore hC.1 hC.2.1 hd hL.2 (by have := hL.1; simp only [List.length_cons] at this; omega) rfl (fun ls' hl' => k hC H ls' locs hW (q_sto1 hL (fun k a e g => by cases e; cases g; exact hp) hl') hlo)
theorem V_astore_6 {a0 a1 a2 a3 a4 a5 : Value} {b : Value} {r : List Value} {x : Int} (hd : decode (q_cc M) pc = .ok (.astore 6, 2)) (hp : a5.category = 1) (k : V D C M (pc + 2) (a0 :: a1 :: a2 :: a3 :: a4 :: a5 :: vr D x :: r) st z f) : V D C M pc (a0 :: a1 :: a2 :: a3 :: a4 :: a5 :: b :: r) (vr D x :: st) z f := fun hC H ls locs hW hL hlo => lv_astore hC.1 hC.2.1 hd hL.2 (by have := hL.1; simp only [List.length_cons] at this; omega) rfl (fun ls' hl' => k hC H ls' locs hW (q_sto1 hL (fun k a e g => by cases e; cases g; exact hp) hl') hlo)
theorem V_lstore_6 {a0 a1 a2 a3 a4 a5 : Value} {b b2 : Value} {r : List Value} {x : Int} (hd : decode (q_cc M) pc = .ok (.lstore 6, 2)) (hp : a5.category = 1) (k : V D C M (pc + 2) (a0 :: a1 :: a2 :: a3 :: a4 :: a5 :: vl x :: vu :: r) st z f) : V D C M pc (a0 :: a1 :: a2 :: a3 :: a4 :: a5 :: b :: b2 :: r) (vl x :: st) z f := fun hC H ls locs hW hL hlo => lv_lstore hC.1 hC.2.1 hd hL.2 (by have := hL.1; simp only [List.length_cons] at this; omega) rfl (fun ls' hl' => k hC H ls' locs hW (q_sto2 hL (fun k a e g => by cases e; cases g; exact hp) hl') hlo)
theorem V_iinc_6 {a0 a1 a2 a3 a4 a5 : Value} {r : List Value} {x n : Int} (hd : decode (q_cc M) pc = .ok (.iinc 6 n, 3)) (hp : a5.category = 1) (k : V D C M (pc + 3) (a0 :: a1 :: a2 :: a3 :: a4 :: a5 :: vi (x + n) :: r) st z f) : V D C M pc (a0 :: a1 :: a2 :: a3 :: a4 :: a5 :: vi x :: r) st z f := fun hC H ls locs hW hL hlo => by
  obtain ⟨j, hj⟩ := List.getElem?_of_mem (q_lv_mem.mpr ⟨(rfl : (a0 :: a1 :: a2 :: a3 :: a4 :: a5 :: vi x :: r)[6]? = some (vi x)), q_ne_i x⟩)
  exact lv_iinc (v := Int32.ofInt (x + n)) hC.1 hC.2.1 hd hL.2 hj (Int32.ofInt_add x n).symm (by have := hL.1; simp only [List.length_cons] at this; omega) rfl (fun ls' hl' => k hC H ls' locs hW (q_sto1 hL (fun k a e g => by cases e; cases g; exact hp) hl') hlo)
theorem V_iload_7 {a0 a1 a2 a3 a4 a5 a6 : Value} {r : List Value} {x : Int} (hd : decode (q_cc M) pc = .ok (.iload 7, 2)) (k : V D C M (pc + 2) (a0 :: a1 :: a2 :: a3 :: a4 :: a5 :: a6 :: vi x :: r) (vi x :: st) z f) : V D C M pc (a0 :: a1 :: a2 :: a3 :: a4 :: a5 :: a6 :: vi x :: r) st z f := fun hC H ls locs hW hL hlo => lv_iload hC.1 hC.2.1 hd (hL.at (k := 7) rfl (q_ne_i x)) (k hC H ls locs hW hL hlo)
theorem V_lload_7 {a0 a1 a2 a3 a4 a5 a6 : Value} {r : List Value} {x : Int} (hd : decode (q_cc M) pc = .ok (.lload 7, 2)) (k : V D C M (pc + 2) (a0 :: a1 :: a2 :: a3 :: a4 :: a5 :: a6 :: vl x :: r) (vl x :: st) z f) : V D C M pc (a0 :: a1 :: a2 :: a3 :: a4 :: a5 :: a6 :: vl x :: r) st z f := fun hC H ls locs hW hL hlo => lv_lload hC.1 hC.2.1 hd (hL.at (k := 7) rfl (q_ne_l x)) (k hC H ls locs hW hL hlo)
theorem V_istore_7 {a0 a1 a2 a3 a4 a5 a6 : Value} {b : Value} {r : List Value} {x : Int} (hd : decode (q_cc M) pc = .ok (.istore 7, 2)) (hp : a6.category = 1) (k : V D C M (pc + 2) (a0 :: a1 :: a2 :: a3 :: a4 :: a5 :: a6 :: vi x :: r) st z f) : V D C M pc (a0 :: a1 :: a2 :: a3 :: a4 :: a5 :: a6 :: b :: r) (vi x :: st) z f := fun hC H ls locs hW hL hlo => lv_istore hC.1 hC.2.1 hd hL.2 (by have := hL.1; simp only [List.length_cons] at this; omega) rfl (fun ls' hl' => k hC H ls' locs hW (q_sto1 hL (fun k a e g => by cases e; cases g; exact hp) hl') hlo)
theorem V_lstore_7 {a0 a1 a2 a3 a4 a5 a6 : Value} {b b2 : Value} {r : List Value} {x : Int} (hd : decode (q_cc M) pc = .ok (.lstore 7, 2)) (hp : a6.category = 1) (k : V D C M (pc + 2) (a0 :: a1 :: a2 :: a3 :: a4 :: a5 :: a6 :: vl x :: vu :: r) st z f) : V D C M pc (a0 :: a1 :: a2 :: a3 :: a4 :: a5 :: a6 :: b :: b2 :: r) (vl x :: st) z f := fun hC H ls locs hW hL hlo => lv_lstore hC.1 hC.2.1 hd hL.2 (by have := hL.1; simp only [List.length_cons] at this; omega) rfl (fun ls' hl' => k hC H ls' locs hW (q_sto2 hL (fun k a e g => by cases e; cases g; exact hp) hl') hlo)
theorem V_iinc_7 {a0 a1 a2 a3 a4 a5 a6 : Value} {r : List Value} {x n : Int} (hd : decode (q_cc M) pc = .ok (.iinc 7 n, 3)) (hp : a6.category = 1) (k : V D C M (pc + 3) (a0 :: a1 :: a2 :: a3 :: a4 :: a5 :: a6 :: vi (x + n) :: r) st z f) : V D C M pc (a0 :: a1 :: a2 :: a3 :: a4 :: a5 :: a6 :: vi x :: r) st z f := fun hC H ls locs hW hL hlo => by
  obtain ⟨j, hj⟩ := List.getElem?_of_mem (q_lv_mem.mpr ⟨(rfl : (a0 :: a1 :: a2 :: a3 :: a4 :: a5 :: a6 :: vi x :: r)[7]? = some (vi x)), q_ne_i x⟩)
  exact lv_iinc (v := Int32.ofInt (x + n)) hC.1 hC.2.1 hd hL.2 hj (Int32.ofInt_add x n).symm (by have := hL.1; simp only [List.length_cons] at this; omega) rfl (fun ls' hl' => k hC H ls' locs hW (q_sto1 hL (fun k a e g => by cases e; cases g; exact hp) hl') hlo)
theorem V_iload_8 {a0 a1 a2 a3 a4 a5 a6 a7 : Value} {r : List Value} {x : Int} (hd : decode (q_cc M) pc = .ok (.iload 8, 2)) (k : V D C M (pc + 2) (a0 :: a1 :: a2 :: a3 :: a4 :: a5 :: a6 :: a7 :: vi x :: r) (vi x :: st) z f) : V D C M pc (a0 :: a1 :: a2 :: a3 :: a4 :: a5 :: a6 :: a7 :: vi x :: r) st z f := fun hC H ls locs hW hL hlo => lv_iload hC.1 hC.2.1 hd (hL.at (k := 8) rfl (q_ne_i x)) (k hC H ls locs hW hL hlo)
theorem V_lload_8 {a0 a1 a2 a3 a4 a5 a6 a7 : Value} {r : List Value} {x : Int} (hd : decode (q_cc M) pc = .ok (.lload 8, 2)) (k : V D C M (pc + 2) (a0 :: a1 :: a2 :: a3 :: a4 :: a5 :: a6 :: a7 :: vl x :: r) (vl x :: st) z f) : V D C M pc (a0 :: a1 :: a2 :: a3 :: a4 :: a5 :: a6 :: a7 :: vl x :: r) st z f := fun hC H ls locs hW hL hlo => lv_lload hC.1 hC.2.1 hd (hL.at (k := 8) rfl (q_ne_l x)) (k hC H ls locs hW hL hlo)
theorem V_istore_8 {a0 a1 a2 a3 a4 a5 a6 a7 : Value} {b : Value} {r : List Value} {x : Int} (hd : decode (q_cc M) pc = .ok (.istore 8, 2)) (hp : a7.category = 1) (k : V D C M (pc + 2) (a0 :: a1 :: a2 :: a3 :: a4 :: a5 :: a6 :: a7 :: vi x :: r) st z f) : V D C M pc (a0 :: a1 :: a2 :: a3 :: a4 :: a5 :: a6 :: a7 :: b :: r) (vi x :: st) z f := fun hC H ls locs hW hL hlo => lv_istore hC.1 hC.2.1 hd hL.2 (by have := hL.1; simp only [List.length_cons] at this; omega) rfl (fun ls' hl' => k hC H ls' locs hW (q_sto1 hL (fun k a e g => by cases e; cases g; exact hp) hl') hlo)
theorem V_lstore_8 {a0 a1 a2 a3 a4 a5 a6 a7 : Value} {b b2 : Value} {r : List Value} {x : Int} (hd : decode (q_cc M) pc = .ok (.lstore 8, 2)) (hp : a7.category = 1) (k : V D C M (pc + 2) (a0 :: a1 :: a2 :: a3 :: a4 :: a5 :: a6 :: a7 :: vl x :: vu :: r) st z f) : V D C M pc (a0 :: a1 :: a2 :: a3 :: a4 :: a5 :: a6 :: a7 :: b :: b2 :: r) (vl x :: st) z f := fun hC H ls locs hW hL hlo => lv_lstore hC.1 hC.2.1 hd hL.2 (by have := hL.1; simp only [List.length_cons] at this; omega) rfl (fun ls' hl' => k hC H ls' locs hW (q_sto2 hL (fun k a e g => by cases e; cases g; exact hp) hl') hlo)
theorem V_iinc_8 {a0 a1 a2 a3 a4 a5 a6 a7 : Value} {r : List Value} {x n : Int} (hd : decode (q_cc M) pc = .ok (.iinc 8 n, 3)) (hp : a7.category = 1) (k : V D C M (pc + 3) (a0 :: a1 :: a2 :: a3 :: a4 :: a5 :: a6 :: a7 :: vi (x + n) :: r) st z f) : V D C M pc (a0 :: a1 :: a2 :: a3 :: a4 :: a5 :: a6 :: a7 :: vi x :: r) st z f := fun hC H ls locs hW hL hlo => by
  obtain ⟨j, hj⟩ := List.getElem?_of_mem (q_lv_mem.mpr ⟨(rfl : (a0 :: a1 :: a2 :: a3 :: a4 :: a5 :: a6 :: a7 :: vi x :: r)[8]? = some (vi x)), q_ne_i x⟩)
  exact lv_iinc (v := Int32.ofInt (x + n)) hC.1 hC.2.1 hd hL.2 hj (Int32.ofInt_add x n).symm (by have := hL.1; simp only [List.length_cons] at this; omega) rfl (fun ls' hl' => k hC H ls' locs hW (q_sto1 hL (fun k a e g => by cases e; cases g; exact hp) hl') hlo)
theorem V_iload_9 {a0 a1 a2 a3 a4 a5 a6 a7 a8 : Value} {r : List Value} {x : Int} (hd : decode (q_cc M) pc = .ok (.iload 9, 2)) (k : V D C M (pc + 2) (a0 :: a1 :: a2 :: a3 :: a4 :: a5 :: a6 :: a7 :: a8 :: vi x :: r) (vi x :: st) z f) : V D C M pc (a0 :: a1 :: a2 :: a3 :: a4 :: a5 :: a6 :: a7 :: a8 :: vi x :: r) st z f := fun hC H ls locs hW hL hlo => lv_iload hC.1 hC.2.1 hd (hL.at (k := 9) rfl (q_ne_i x)) (k hC H ls locs hW hL hlo)
theorem V_istore_9 {a0 a1 a2 a3 a4 a5 a6 a7 a8 : Value} {b : Value} {r : List Value} {x : Int} (hd : decode (q_cc M) pc = .ok (.istore 9, 2)) (hp : a8.category = 1) (k : V D C M (pc + 2) (a0 :: a1 :: a2 :: a3 :: a4 :: a5 :: a6 :: a7 :: a8 :: vi x :: r) st z f) : V D C M pc (a0 :: a1 :: a2 :: a3 :: a4 :: a5 :: a6 :: a7 :: a8 :: b :: r) (vi x :: st) z f := fun hC H ls locs hW hL hlo => lv_istore hC.1 hC.2.1 hd hL.2 (by have := hL.1; simp only [List.length_cons] at this; omega) rfl (fun ls' hl' => k hC H ls' locs hW (q_sto1 hL (fun k a e g => by cases e; cases g; exact hp) hl') hlo)
theorem V_iinc_9 {a0 a1 a2 a3 a4 a5 a6 a7 a8 : Value} {r : List Value} {x n : Int} (hd : decode (q_cc M) pc = .ok (.iinc 9 n, 3)) (hp : a8.category = 1) (k : V D C M (pc + 3) (a0 :: a1 :: a2 :: a3 :: a4 :: a5 :: a6 :: a7 :: a8 :: vi (x + n) :: r) st z f) : V D C M pc (a0 :: a1 :: a2 :: a3 :: a4 :: a5 :: a6 :: a7 :: a8 :: vi x :: r) st z f := fun hC H ls locs hW hL hlo => by
  obtain ⟨j, hj⟩ := List.getElem?_of_mem (q_lv_mem.mpr ⟨(rfl : (a0 :: a1 :: a2 :: a3 :: a4 :: a5 :: a6 :: a7 :: a8 :: vi x :: r)[9]? = some (vi x)), q_ne_i x⟩)
  exact lv_iinc (v := Int32.ofInt (x + n)) hC.1 hC.2.1 hd hL.2 hj (Int32.ofInt_add x n).symm (by have := hL.1; simp only [List.length_cons] at this; omega) rfl (fun ls' hl' => k hC H ls' locs hW (q_sto1 hL (fun k a e g => by cases e; cases g; exact hp) hl') hlo)
theorem V_iload_10 {a0 a1 a2 a3 a4 a5 a6 a7 a8 a9 : Value} {r : List Value} {x : Int} (hd : decode (q_cc M) pc = .ok (.iload 10, 2)) (k : V D C M (pc + 2) (a0 :: a1 :: a2 :: a3 :: a4 :: a5 :: a6 :: a7 :: a8 :: a9 :: vi x :: r) (vi x :: st) z f) : V D C M pc (a0 :: a1 :: a2 :: a3 :: a4 :: a5 :: a6 :: a7 :: a8 :: a9 :: vi x :: r) st z f := fun hC H ls locs hW hL hlo => lv_iload hC.1 hC.2.1 hd (hL.at (k := 10) rfl (q_ne_i x)) (k hC H ls locs hW hL hlo)
theorem V_istore_10 {a0 a1 a2 a3 a4 a5 a6 a7 a8 a9 : Value} {b : Value} {r : List Value} {x : Int} (hd : decode (q_cc M) pc = .ok (.istore 10, 2)) (hp : a9.category = 1) (k : V D C M (pc + 2) (a0 :: a1 :: a2 :: a3 :: a4 :: a5 :: a6 :: a7 :: a8 :: a9 :: vi x :: r) st z f) : V D C M pc (a0 :: a1 :: a2 :: a3 :: a4 :: a5 :: a6 :: a7 :: a8 :: a9 :: b :: r) (vi x :: st) z f := fun hC H ls locs hW hL hlo => lv_istore hC.1 hC.2.1 hd hL.2 (by have := hL.1; simp only [List.length_cons] at this; omega) rfl (fun ls' hl' => k hC H ls' locs hW (q_sto1 hL (fun k a e g => by cases e; cases g; exact hp) hl') hlo)
theorem V_iinc_10 {a0 a1 a2 a3 a4 a5 a6 a7 a8 a9 : Value} {r : List Value} {x n : Int} (hd : decode (q_cc M) pc = .ok (.iinc 10 n, 3)) (hp : a9.category = 1) (k : V D C M (pc + 3) (a0 :: a1 :: a2 :: a3 :: a4 :: a5 :: a6 :: a7 :: a8 :: a9 :: vi (x + n) :: r) st z f) : V D C M pc (a0 :: a1 :: a2 :: a3 :: a4 :: a5 :: a6 :: a7 :: a8 :: a9 :: vi x :: r) st z f := fun hC H ls locs hW hL hlo => by
  obtain ⟨j, hj⟩ := List.getElem?_of_mem (q_lv_mem.mpr ⟨(rfl : (a0 :: a1 :: a2 :: a3 :: a4 :: a5 :: a6 :: a7 :: a8 :: a9 :: vi x :: r)[10]? = some (vi x)), q_ne_i x⟩)
  exact lv_iinc (v := Int32.ofInt (x + n)) hC.1 hC.2.1 hd hL.2 hj (Int32.ofInt_add x n).symm (by have := hL.1; simp only [List.length_cons] at this; omega) rfl (fun ls' hl' => k hC H ls' locs hW (q_sto1 hL (fun k a e g => by cases e; cases g; exact hp) hl') hlo)
theorem V_iload_11 {a0 a1 a2 a3 a4 a5 a6 a7 a8 a9 a10 : Value} {r : List Value} {x : Int} (hd : decode (q_cc M) pc = .ok (.iload 11, 2)) (k : V D C M (pc + 2) (a0 :: a1 :: a2 :: a3 :: a4 :: a5 :: a6 :: a7 :: a8 :: a9 :: a10 :: vi x :: r) (vi x :: st) z f) : V D C M pc (a0 :: a1 :: a2 :: a3 :: a4 :: a5 :: a6 :: a7 :: a8 :: a9 :: a10 :: vi x :: r) st z f := fun hC H ls locs hW hL hlo => lv_iload hC.1 hC.2.1 hd (hL.at (k := 11) rfl (q_ne_i x)) (k hC H ls locs hW hL hlo)
theorem V_istore_11 {a0 a1 a2 a3 a4 a5 a6 a7 a8 a9 a10 : Value} {b : Value} {r : List Value} {x : Int} (hd : decode (q_cc M) pc = .ok (.istore 11, 2)) (hp : a10.category = 1) (k : V D C M (pc + 2) (a0 :: a1 :: a2 :: a3 :: a4 :: a5 :: a6 :: a7 :: a8 :: a9 :: a10 :: vi x :: r) st z f) : V D C M pc (a0 :: a1 :: a2 :: a3 :: a4 :: a5 :: a6 :: a7 :: a8 :: a9 :: a10 :: b :: r) (vi x :: st) z f := fun hC H ls locs hW hL hlo => lv_istore hC.1 hC.2.1 hd hL.2 (by have := hL.1; simp only [List.length_cons] at this; omega) rfl (fun ls' hl' => k hC H ls' locs hW (q_sto1 hL (fun k a e g => by cases e; cases g; exact hp) hl') hlo)
theorem V_iinc_11 {a0 a1 a2 a3 a4 a5 a6 a7 a8 a9 a10 : Value} {r : List Value} {x n : Int} (hd : decode (q_cc M) pc = .ok (.iinc 11 n, 3)) (hp : a10.category = 1) (k : V D C M (pc + 3) (a0 :: a1 :: a2 :: a3 :: a4 :: a5 :: a6 :: a7 :: a8 :: a9 :: a10 :: vi (x + n) :: r) st z f) : V D C M pc (a0 :: a1 :: a2 :: a3 :: a4 :: a5 :: a6 :: a7 :: a8 :: a9 :: a10 :: vi x :: r) st z f := fun hC H ls locs hW hL hlo => by
  obtain ⟨j, hj⟩ := List.getElem?_of_mem (q_lv_mem.mpr ⟨(rfl : (a0 :: a1 :: a2 :: a3 :: a4 :: a5 :: a6 :: a7 :: a8 :: a9 :: a10 :: vi x :: r)[11]? = some (vi x)), q_ne_i x⟩)
  exact lv_iinc (v := Int32.ofInt (x + n)) hC.1 hC.2.1 hd hL.2 hj (Int32.ofInt_add x n).symm (by have := hL.1; simp only [List.length_cons] at this; omega) rfl (fun ls' hl' => k hC H ls' locs hW (q_sto1 hL (fun k a e g => by cases e; cases g; exact hp) hl') hlo)
theorem V_iload_12 {a0 a1 a2 a3 a4 a5 a6 a7 a8 a9 a10 a11 : Value} {r : List Value} {x : Int} (hd : decode (q_cc M) pc = .ok (.iload 12, 2)) (k : V D C M (pc + 2) (a0 :: a1 :: a2 :: a3 :: a4 :: a5 :: a6 :: a7 :: a8 :: a9 :: a10 :: a11 :: vi x :: r) (vi x :: st) z f) : V D C M pc (a0 :: a1 :: a2 :: a3 :: a4 :: a5 :: a6 :: a7 :: a8 :: a9 :: a10 :: a11 :: vi x :: r) st z f := fun hC H ls locs hW hL hlo => lv_iload hC.1 hC.2.1 hd (hL.at (k := 12) rfl (q_ne_i x)) (k hC H ls locs hW hL hlo)
theorem V_istore_12 {a0 a1 a2 a3 a4 a5 a6 a7 a8 a9 a10 a11 : Value} {b : Value} {r : List Value} {x : Int} (hd : decode (q_cc M) pc = .ok (.istore 12, 2)) (hp : a11.category = 1) (k : V D C M (pc + 2) (a0 :: a1 :: a2 :: a3 :: a4 :: a5 :: a6 :: a7 :: a8 :: a9 :: a10 :: a11 :: vi x :: r) st z f) : V D C M pc (a0 :: a1 :: a2 :: a3 :: a4 :: a5 :: a6 :: a7 :: a8 :: a9 :: a10 :: a11 :: b :: r) (vi x :: st) z f := fun hC H ls locs hW hL hlo => lv_istore hC.1 hC.2.1 hd hL.2 (by have := hL.1; simp only [List.length_cons] at this; omega) rfl (fun ls' hl' => k hC H ls' locs hW (q_sto1 hL (fun k a e g => by cases e; cases g; exact hp) hl') hlo)
theorem V_iinc_12 {a0 a1 a2 a3 a4 a5 a6 a7 a8 a9 a10 a11 : Value} {r : List Value} {x n : Int} (hd : decode (q_cc M) pc = .ok (.iinc 12 n, 3)) (hp : a11.category = 1) (k : V D C M (pc + 3) (a0 :: a1 :: a2 :: a3 :: a4 :: a5 :: a6 :: a7 :: a8 :: a9 :: a10 :: a11 :: vi (x + n) :: r) st z f) : V D C M pc (a0 :: a1 :: a2 :: a3 :: a4 :: a5 :: a6 :: a7 :: a8 :: a9 :: a10 :: a11 :: vi x :: r) st z f := fun hC H ls locs hW hL hlo => by
  obtain ⟨j, hj⟩ := List.getElem?_of_mem (q_lv_mem.mpr ⟨(rfl : (a0 :: a1 :: a2 :: a3 :: a4 :: a5 :: a6 :: a7 :: a8 :: a9 :: a10 :: a11 :: vi x :: r)[12]? = some (vi x)), q_ne_i x⟩)
  exact lv_iinc (v := Int32.ofInt (x + n)) hC.1 hC.2.1 hd hL.2 hj (Int32.ofInt_add x n).symm (by have := hL.1; simp only [List.length_cons] at this; omega) rfl (fun ls' hl' => k hC H ls' locs hW (q_sto1 hL (fun k a e g => by cases e; cases g; exact hp) hl') hlo)
theorem V_iload_13 {a0 a1 a2 a3 a4 a5 a6 a7 a8 a9 a10 a11 a12 : Value} {r : List Value} {x : Int} (hd : decode (q_cc M) pc = .ok (.iload 13, 2)) (k : V D C M (pc + 2) (a0 :: a1 :: a2 :: a3 :: a4 :: a5 :: a6 :: a7 :: a8 :: a9 :: a10 :: a11 :: a12 :: vi x :: r) (vi x :: st) z f) : V D C M pc (a0 :: a1 :: a2 :: a3 :: a4 :: a5 :: a6 :: a7 :: a8 :: a9 :: a10 :: a11 :: a12 :: vi x :: r) st z f := fun hC H ls locs hW hL hlo => lv_iload hC.1 hC.2.1 hd (hL.at (k := 13) rfl (q_ne_i x)) (k hC H ls locs hW hL hlo)
theorem V_istore_13 {a0 a1 a2 a3 a4 a5 a6 a7 a8 a9 a10 a11 a12 : Value} {b : Value} {r : List Value} {x : Int} (hd : decode (q_cc M) pc = .ok (.istore 13, 2)) (hp : a12.category = 1) (k : V D C M (pc + 2) (a0 :: a1 :: a2 :: a3 :: a4 :: a5 :: a6 :: a7 :: a8 :: a9 :: a10 :: a11 :: a12 :: vi x :: r) st z f) : V D C M pc (a0 :: a1 :: a2 :: a3 :: a4 :: a5 :: a6 :: a7 :: a8 :: a9 :: a10 :: a11 :: a12 :: b :: r) (vi x :: st) z f := fun hC H ls locs hW hL hlo => lv_istore hC.1 hC.2.1 hd hL.2 (by have := hL.1; simp only [List.length_cons] at this; omega) rfl (fun ls' hl' => k hC H ls' locs hW (q_sto1 hL (fun k a e g => by cases e; cases g; exact hp) hl') hlo)
theorem V_iinc_13 {a0 a1 a2 a3 a4 a5 a6 a7 a8 a9 a10 a11 a12 : Value} {r : List Value} {x n : Int} (hd : decode (q_cc M) pc = .ok (.iinc 13 n, 3)) (hp : a12.category = 1) (k : V D C M (pc + 3) (a0 :: a1 :: a2 :: a3 :: a4 :: a5 :: a6 :: a7 :: a8 :: a9 :: a10 :: a11 :: a12 :: vi (x + n) :: r) st z f) : V D C M pc (a0 :: a1 :: a2 :: a3 :: a4 :: a5 :: a6 :: a7 :: a8 :: a9 :: a10 :: a11 :: a12 :: vi x :: r) st z f := fun hC H ls locs hW hL hlo => by
  obtain ⟨j, hj⟩ := List.getElem?_of_mem (q_lv_mem.mpr ⟨(rfl : (a0 :: a1 :: a2 :: a3 :: a4 :: a5 :: a6 :: a7 :: a8 :: a9 :: a10 :: a11 :: a12 :: vi x :: r)[13]? = some (vi x)), q_ne_i x⟩)
  exact lv_iinc (v := Int32.ofInt (x + n)) hC.1 hC.2.1 hd hL.2 hj (Int32.ofInt_add x n).symm (by have := hL.1; simp only [List.length_cons] at this; omega) rfl (fun ls' hl' => k hC H ls' locs hW (q_sto1 hL (fun k a e g => by cases e; cases g; exact hp) hl') hlo)
theorem V_iload_14 {a0 a1 a2 a3 a4 a5 a6 a7 a8 a9 a10 a11 a12 a13 : Value} {r : List Value} {x : Int} (hd : decode (q_cc M) pc = .ok (.iload 14, 2)) (k : V D C M (pc + 2) (a0 :: a1 :: a2 :: a3 :: a4 :: a5 :: a6 :: a7 :: a8 :: a9 :: a10 :: a11 :: a12 :: a13 :: vi x :: r) (vi x :: st) z f) : V D C M pc (a0 :: a1 :: a2 :: a3 :: a4 :: a5 :: a6 :: a7 :: a8 :: a9 :: a10 :: a11 :: a12 :: a13 :: vi x :: r) st z f := fun hC H ls locs hW hL hlo => lv_iload hC.1 hC.2.1 hd (hL.at (k := 14) rfl (q_ne_i x)) (k hC H ls locs hW hL hlo)
theorem V_istore_14 {a0 a1 a2 a3 a4 a5 a6 a7 a8 a9 a10 a11 a12 a13 : Value} {b : Value} {r : List Value} {x : Int} (hd : decode (q_cc M) pc = .ok (.istore 14, 2)) (hp : a13.category = 1) (k : V D C M (pc + 2) (a0 :: a1 :: a2 :: a3 :: a4 :: a5 :: a6 :: a7 :: a8 :: a9 :: a10 :: a11 :: a12 :: a13 :: vi x :: r) st z f) : V D C M pc (a0 :: a1 :: a2 :: a3 :: a4 :: a5 :: a6 :: a7 :: a8 :: a9 :: a10 :: a11 :: a12 :: a13 :: b :: r) (vi x :: st) z f := fun hC H ls locs hW hL hlo => lv_istore hC.1 hC.2.1 hd hL.2 (by have := hL.1; simp only [List.length_cons] at this; omega) rfl (fun ls' hl' => k hC H ls' locs hW (q_sto1 hL (fun k a e g => by cases e; cases g; exact hp) hl') hlo)
theorem V_iinc_14 {a0 a1 a2 a3 a4 a5 a6 a7 a8 a9 a10 a11 a12 a13 : Value} {r : List Value} {x n : Int} (hd : decode (q_cc M) pc = .ok (.iinc 14 n, 3)) (hp : a13.category = 1) (k : V D C M (pc + 3) (a0 :: a1 :: a2 :: a3 :: a4 :: a5 :: a6 :: a7 :: a8 :: a9 :: a10 :: a11 :: a12 :: a13 :: vi (x + n) :: r) st z f) : V D C M pc (a0 :: a1 :: a2 :: a3 :: a4 :: a5 :: a6 :: a7 :: a8 :: a9 :: a10 :: a11 :: a12 :: a13 :: vi x :: r) st z f := fun hC H ls locs hW hL hlo => by
  obtain ⟨j, hj⟩ := List.getElem?_of_mem (q_lv_mem.mpr ⟨(rfl : (a0 :: a1 :: a2 :: a3 :: a4 :: a5 :: a6 :: a7 :: a8 :: a9 :: a10 :: a11 :: a12 :: a13 :: vi x :: r)[14]? = some (vi x)), q_ne_i x⟩)
  exact lv_iinc (v := Int32.ofInt (x + n)) hC.1 hC.2.1 hd hL.2 hj (Int32.ofInt_add x n).symm (by have := hL.1; simp only [List.length_cons] at this; omega) rfl (fun ls' hl' => k hC H ls' locs hW (q_sto1 hL (fun k a e g => by cases e; cases g; exact hp) hl') hlo)
end ROWS
