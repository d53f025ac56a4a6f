/-! rows of the heap: fields, arrays -/
theorem q_W.upd {D : q_D} {z z' : q_Z} {f f' : q_F} {H H' : Heap} {j : Nat} (hW : q_W D z f H) (hz : z'.1 = z.1) (hs : H'.size = H.size) (ho : ∀ q, q ≠ D.1 + j → H'[q]? = H[q]?) (hat : q_at D z' f' H' j) (hsv : ∀ j' : Nat, j' ≠ j → q_sv D z' f' j' = q_sv D z f j') : q_W D z' f' H' := by
  obtain ⟨h1, h2, h3⟩ := hW
  refine ⟨by rw [hs, h1, hz], fun q hq => by rw [ho q (by omega)]; exact h2 q hq, fun j' hj' => ?_⟩
  by_cases e : j' = j
  · rw [e]; exact hat
  · obtain ⟨g1, g2⟩ := h3 j' (by rw [← hz]; exact hj')
    have hh : H'[D.1 + j']? = H[D.1 + j']? := ho _ (by omega)
    unfold q_at
    rw [hsv j' e]
    exact ⟨fun c hc => (g1 c hc).kept hh, fun hk => by rw [hh]; exact g2 hk⟩
theorem q_kq {q : Int} {a : Nat} {n : Int} (h0 : 0 ≤ q) (h : q_kn q = (a, n)) : q_k (q.toNat : Int) = a ∧ q_n (q.toNat : Int) = n := by
  rw [Int.toNat_of_nonneg h0]; unfold q_k q_n; rw [h]; exact ⟨rfl, rfl⟩
def q_tk (a : Nat) (k : Int) : Nat := match a with
  | 20 => 0
  | 21 => 1
  | 22 => 0
  | 23 => 2
  | c => q_ft c k
theorem q_tq {q : Int} {a : Nat} {n : Int} (h : q_kn q = (a, n)) (k : Int) : q_t q k = q_tk a k := by
  unfold q_t q_k; rw [h]; rfl
theorem q_tf {q : Int} {a : Nat} {n : Int} (h : q_kn q = (a, n)) (ha : a < 20) (k : Int) : q_t q k = q_ft a k := by
  rw [q_tq h]; unfold q_tk; split <;> first | omega | rfl
/-- the array in a cell -/
theorem q_W.arr {D : q_D} {N : Nat} {rf : Int → Int → Int} {c s : Nat} {f : q_F} {H : Heap} {q n : Int} {a : Nat} (hW : q_W D (N, rf, c, s) f H) (hq : q_ce N q a n) (ha : 20 ≤ a) : H[D.1 + q.toNat]? = some (arrV (D.2.2.2.2.1 a) n.toNat (q_sv D (N, rf, c, s) f q.toNat)) := by
  obtain ⟨h0, h1, h2⟩ := hq
  obtain ⟨e1, e2⟩ := q_kq h0 h2
  have h3 : q.toNat < N := by omega
  have := (hW.2.2 q.toNat h3).2 (by rw [e1]; exact ha)
  rw [e1, e2] at this
  exact this
theorem q_sv_i {D : q_D} {z : q_Z} {f : q_F} {q : Int} {k : Nat} (h0 : 0 ≤ q) (ht : q_t q k = 0) : q_sv D z f q.toNat k = vi (f q k) := by
  unfold q_sv; rw [Int.toNat_of_nonneg h0, ht]; rfl
theorem q_sv_l {D : q_D} {z : q_Z} {f : q_F} {q : Int} {k : Nat} (h0 : 0 ≤ q) (ht : q_t q k = 1) : q_sv D z f q.toNat k = vl (f q k) := by
  unfold q_sv; rw [Int.toNat_of_nonneg h0, ht]; rfl
theorem q_sv_r {D : q_D} {z : q_Z} {f : q_F} {q r : Int} {k : Nat} (h0 : 0 ≤ q) (ht : q_t q k = 2) (hr : z.2.1 q k = r ∧ 0 ≤ r) : q_sv D z f q.toNat k = vr D r := by
  unfold q_sv; rw [Int.toNat_of_nonneg h0, ht, hr.1]; show (if r < 0 then Value.null else vr D r) = _; rw [if_neg (by omega)]
theorem q_inb {x : Int} {n : Int} (h0 : 0 ≤ x) (h : x < n) (hx : x < 2147483648) {m : Nat} (hm : m = n.toNat) : ¬ (Int32.ofInt x < 0 ∨ m ≤ (Int32.ofInt x).toNatClampNeg) := by
  rw [q_0, q_lt (by omega) (by omega), q_nc h0 hx]; omega
section HEAP
variable {D : q_D} {C : q_C} {M : q_M} {pc N cs ss : Nat} {L st : List Value} {rf : Int → Int → Int} {f : q_F} {q n : Int}
theorem V_iald {x : Int} (hd : decode (q_cc M) pc = .ok (.iaload, 1)) (hq : q_ce N q 20 n) (hx : 0 ≤ x ∧ x < n) (hb : x < 2147483648) (k : V D C M (pc + 1) L (vi (f q x) :: st) (N, rf, cs, ss) f) : V D C M pc L (vi x :: vr D q :: st) (N, rf, cs, ss) f := by
  intro hC H ls locs hW hL hlo
  refine W.iald (v := vi (f q x)) hC.1 hC.2.1 (hW.arr hq (by omega)) ((hC.2.2.2.2.2.2.2.2.1.2.1 20 .int rfl).1 _ _) (fun h => by cases h) (q_inb hx.1 hx.2 hb (arrV_size _ _ _)) ?_ rfl rfl hd (k hC H ls locs hW hL hlo)
  rw [q_nc hx.1 hb, arrV_read _ _ (by omega), q_sv_i hq.1 (q_tq hq.2.2 _), Int.toNat_of_nonneg hx.1]
theorem V_cald {x : Int} (hd : decode (q_cc M) pc = .ok (.caload, 1)) (hq : q_ce N q 22 n) (hx : 0 ≤ x ∧ x < n) (hb : x < 2147483648) (k : V D C M (pc + 1) L (vi (f q x) :: st) (N, rf, cs, ss) f) : V D C M pc L (vi x :: vr D q :: st) (N, rf, cs, ss) f := by
  intro hC H ls locs hW hL hlo
  refine W.cald (v := vi (f q x)) hC.1 hC.2.1 (hW.arr hq (by omega)) ((hC.2.2.2.2.2.2.2.2.1.2.1 22 .char rfl).1 _ _) (fun h => by cases h) (q_inb hx.1 hx.2 hb (arrV_size _ _ _)) ?_ rfl rfl hd (k hC H ls locs hW hL hlo)
  rw [q_nc hx.1 hb, arrV_read _ _ (by omega), q_sv_i hq.1 (q_tq hq.2.2 _), Int.toNat_of_nonneg hx.1]
theorem V_lald {x : Int} (hd : decode (q_cc M) pc = .ok (.laload, 1)) (hq : q_ce N q 21 n) (hx : 0 ≤ x ∧ x < n) (hb : x < 2147483648) (k : V D C M (pc + 1) L (vl (f q x) :: st) (N, rf, cs, ss) f) : V D C M pc L (vi x :: vr D q :: st) (N, rf, cs, ss) f := by
  intro hC H ls locs hW hL hlo
  refine W.lald (v := vl (f q x)) hC.1 hC.2.1 (hW.arr hq (by omega)) ((hC.2.2.2.2.2.2.2.2.1.2.1 21 .long rfl).1 _ _) (fun h => by cases h) (q_inb hx.1 hx.2 hb (arrV_size _ _ _)) ?_ rfl rfl hd (k hC H ls locs hW hL hlo)
  rw [q_nc hx.1 hb, arrV_read _ _ (by omega), q_sv_l hq.1 (q_tq hq.2.2 _), Int.toNat_of_nonneg hx.1]
theorem V_aald {x r : Int} (hd : decode (q_cc M) pc = .ok (.aaload, 1)) (hq : q_ce N q 23 n) (hx : 0 ≤ x ∧ x < n) (hb : x < 2147483648) (hr : q_rr rf q x r) (k : V D C M (pc + 1) L (vr D r :: st) (N, rf, cs, ss) f) : V D C M pc L (vi x :: vr D q :: st) (N, rf, cs, ss) f := by
  intro hC H ls locs hW hL hlo
  refine W.aald (v := vr D r) hC.1 hC.2.1 (hW.arr hq (by omega)) ((hC.2.2.2.2.2.2.2.2.1.2.1 23 (.array .int) rfl).1 _ _) rfl (fun h => by cases h) (q_inb hx.1 hx.2 hb (arrV_size _ _ _)) ?_ rfl rfl hd (k hC H ls locs hW hL hlo)
  rw [q_nc hx.1 hb, arrV_read _ _ (by omega), q_sv_r (r := r) hq.1 (q_tq hq.2.2 _)]
  show rf q _ = r ∧ 0 ≤ r
  rw [Int.toNat_of_nonneg hx.1]; exact hr
theorem V_alen {a : Nat} {ty : FieldType} (hd : decode (q_cc M) pc = .ok (.arraylength, 1)) (hq : q_ce N q a n) (ha : 20 ≤ a) (hty : q_aty a = some ty) (hn : 0 ≤ n ∧ n < 2147483648) (k : V D C M (pc + 1) L (vi n :: st) (N, rf, cs, ss) f) : V D C M pc L (vr D q :: st) (N, rf, cs, ss) f := by
  intro hC H ls locs hW hL hlo
  refine W.alen (n := Int32.ofInt n) hC.1 hC.2.1 (hW.arr hq ha) ((hC.2.2.2.2.2.2.2.2.1.2.1 a ty hty).1 _ _) ?_ rfl rfl hd (k hC H ls locs hW hL hlo)
  rw [arrV_size]
  obtain ⟨m, rfl⟩ := Int.eq_ofNat_of_zero_le hn.1
  exact (Int32.ofInt_eq_ofNat).symm
theorem q_W.stoA {x y : Int} {H H' : Heap} {a : Nat} {v : Value} (hW : q_W D (N, rf, cs, ss) f H) (hq : q_ce N q a n) (ha : 20 ≤ a) (hx : 0 ≤ x ∧ x < n) (hv : q_val D (q_t q x) y (rf q x) = v) (h1 : H'[D.1 + q.toNat]? = some ((arrV (D.2.2.2.2.1 a) n.toNat (q_sv D (N, rf, cs, ss) f q.toNat)).setSlot x.toNat v)) (h2 : H'.size = H.size) (h3 : ∀ p, p ≠ D.1 + q.toNat → H'[p]? = H[p]?) : q_W D (N, rf, cs, ss) (q_up f q x y) H' := by
  obtain ⟨h0, hN, hk⟩ := hq
  obtain ⟨e1, e2⟩ := q_kq h0 hk
  refine hW.upd (j := q.toNat) rfl h2 h3 ⟨fun c hc => ?_, fun _ => ?_⟩ (fun j' hj' => ?_)
  · rw [e1] at hc
    have : (q_cl)[a]? = none := List.getElem?_eq_none (by simp; omega)
    rw [this] at hc; cases hc
  · rw [h1, arrV_store, e1, e2]
    refine congrArg some (congrArg (arrV _ _) (funext fun k => ?_))
    unfold updV q_sv
    by_cases e : k = x.toNat
    · subst e
      rw [if_pos rfl, Int.toNat_of_nonneg h0, Int.toNat_of_nonneg hx.1, q_up_eq, hv]
    · rw [if_neg e, q_up_ne (Or.inr (by omega))]
  · funext k
    unfold q_sv
    rw [q_up_ne (Or.inl (by omega))]
theorem V_iast {x y : Int} (hd : decode (q_cc M) pc = .ok (.iastore, 1)) (hq : q_ce N q 20 n) (hx : 0 ≤ x ∧ x < n) (hb : x < 2147483648) (k : V D C M (pc + 1) L st (N, rf, cs, ss) (q_up f q x y)) : V D C M pc L (vi y :: vi x :: vr D q :: st) (N, rf, cs, ss) f := by
  intro hC H ls locs hW hL hlo
  refine W.iast hC.1 hC.2.1 (hW.arr hq (by omega)) ((hC.2.2.2.2.2.2.2.2.1.2.1 20 .int rfl).1 _ _) (fun h => by cases h) (q_inb hx.1 hx.2 hb (arrV_size _ _ _)) rfl rfl hd (fun H' h1 h2 h3 => ?_)
  rw [q_nc hx.1 hb] at h1
  refine k hC H' ls _ (hW.stoA hq (by omega) hx (by rw [q_tq hq.2.2]; rfl) h1 h2 h3) hL (fun p hp => ?_)
  rcases List.mem_append.mp hp with h | h
  · exact hlo p h
  · rw [List.mem_singleton.mp h]; exact Nat.le_add_right _ _
theorem V_last {x y : Int} (hd : decode (q_cc M) pc = .ok (.lastore, 1)) (hq : q_ce N q 21 n) (hx : 0 ≤ x ∧ x < n) (hb : x < 2147483648) (k : V D C M (pc + 1) L st (N, rf, cs, ss) (q_up f q x y)) : V D C M pc L (vl y :: vi x :: vr D q :: st) (N, rf, cs, ss) f := by
  intro hC H ls locs hW hL hlo
  refine W.last hC.1 hC.2.1 (hW.arr hq (by omega)) ((hC.2.2.2.2.2.2.2.2.1.2.1 21 .long rfl).1 _ _) (fun h => by cases h) (q_inb hx.1 hx.2 hb (arrV_size _ _ _)) rfl rfl hd (fun H' h1 h2 h3 => ?_)
  rw [q_nc hx.1 hb] at h1
  refine k hC H' ls _ (hW.stoA hq (by omega) hx (by rw [q_tq hq.2.2]; rfl) h1 h2 h3) hL (fun p hp => ?_)
  rcases List.mem_append.mp hp with h | h
  · exact hlo p h
  · rw [List.mem_singleton.mp h]; exact Nat.le_add_right _ _
theorem q_char {y : Int} (h : 0 ≤ y ∧ y < 65536) : narrow .char (.int (Int32.ofInt y)) = .int (Int32.ofInt y) := by
  obtain ⟨m, rfl⟩ := Int.eq_ofNat_of_zero_le h.1
  have e : Int32.ofInt (m : Int) = nI m := Int32.ofInt_eq_ofNat
  rw [e]; exact (pk_charN (by omega)).1
theorem V_cast {x y : Int} (hd : decode (q_cc M) pc = .ok (.castore, 1)) (hq : q_ce N q 22 n) (hx : 0 ≤ x ∧ x < n) (hb : x < 2147483648) (hy : 0 ≤ y ∧ y < 65536) (k : V D C M (pc + 1) L st (N, rf, cs, ss) (q_up f q x y)) : V D C M pc L (vi y :: vi x :: vr D q :: st) (N, rf, cs, ss) f := by
  intro hC H ls locs hW hL hlo
  refine W.cast hC.1 hC.2.1 (hW.arr hq (by omega)) ((hC.2.2.2.2.2.2.2.2.1.2.1 22 .char rfl).1 _ _) (fun h => by cases h) (q_inb hx.1 hx.2 hb (arrV_size _ _ _)) rfl rfl hd (fun H' h1 h2 h3 => ?_)
  rw [q_nc hx.1 hb, q_char hy] at h1
  refine k hC H' ls _ (hW.stoA hq (by omega) hx (by rw [q_tq hq.2.2]; rfl) h1 h2 h3) hL (fun p hp => ?_)
  rcases List.mem_append.mp hp with h | h
  · exact hlo p h
  · rw [List.mem_singleton.mp h]; exact Nat.le_add_right _ _
/-- a field of an object -/
theorem V_get {idx ci k0 t : Nat} {kk : Int} {d : String} {fin : Bool} {v : Value} (hd : decode (q_cc M) pc = .ok (.getfield idx, 3)) (hl : q_fl (q_y M).cls idx ci k0 kk d fin t) (hq : q_ce N q ci n) (hv : q_val D t (f q kk) (rf q kk) = v) (k : V D C M (pc + 3) L (v :: st) (N, rf, cs, ss) f) : V D C M pc L (vr D q :: st) (N, rf, cs, ss) f := by
  intro hC H ls locs hW hL hlo
  obtain ⟨c, hc, hk0, rfl, -, -, ht, hci, hlink⟩ := hl
  obtain ⟨h0, hN, hkn⟩ := hq
  obtain ⟨e1, -⟩ := q_kq h0 hkn
  obtain ⟨cell, a1, a2, a3, a4⟩ := (hW.2.2 q.toNat (by show q.toNat < N; omega)).1 c (by rw [e1]; exact hc)
  have hK := hC.2.2.2.2.2.2.2.2.1
  obtain ⟨hS, hfc, kC, hkC, -⟩ := hK.1 ci c hc
  obtain ⟨cf, kf, fi, fd, hi, hsl⟩ := hS k0 hk0
  have hin := (q_clsok ci c hc).1
  refine W.getf (v := v) hC.1 hC.2.1 hC.2.2.2.1 (hC.2.2.2.2.1 _ hlink) hi (u_facts hfc hkC (u_lays hC.2.2.2.2.1 hin hk0) hi).1 a1 (by rw [a3]; exact fun h => by cases h) ?_ rfl rfl hd (k hC H ls locs hW hL hlo)
  have a5 := a4 k0 hk0
  rw [e1] at a5
  rw [hsl, a5]
  unfold q_sv
  rw [Int.toNat_of_nonneg h0, q_tf hkn hci, ht]
  exact congrArg some hv
theorem V_getI {idx ci k0 : Nat} {kk : Int} {d : String} {fin : Bool} (hd : decode (q_cc M) pc = .ok (.getfield idx, 3)) (hl : q_fl (q_y M).cls idx ci k0 kk d fin 0) (hq : q_ce N q ci n) (k : V D C M (pc + 3) L (vi (f q kk) :: st) (N, rf, cs, ss) f) : V D C M pc L (vr D q :: st) (N, rf, cs, ss) f := V_get hd hl hq rfl k
theorem V_getL {idx ci k0 : Nat} {kk : Int} {d : String} {fin : Bool} (hd : decode (q_cc M) pc = .ok (.getfield idx, 3)) (hl : q_fl (q_y M).cls idx ci k0 kk d fin 1) (hq : q_ce N q ci n) (k : V D C M (pc + 3) L (vl (f q kk) :: st) (N, rf, cs, ss) f) : V D C M pc L (vr D q :: st) (N, rf, cs, ss) f := V_get hd hl hq rfl k
theorem V_getR {idx ci k0 : Nat} {kk r : Int} {d : String} {fin : Bool} (hd : decode (q_cc M) pc = .ok (.getfield idx, 3)) (hl : q_fl (q_y M).cls idx ci k0 kk d fin 2) (hq : q_ce N q ci n) (hr : q_rr rf q kk r) (k : V D C M (pc + 3) L (vr D r :: st) (N, rf, cs, ss) f) : V D C M pc L (vr D q :: st) (N, rf, cs, ss) f := V_get hd hl hq (by show (if rf q kk < 0 then Value.null else vr D (rf q kk)) = _; rw [hr.1, if_neg (by have := hr.2; omega)]) k
theorem V_put {idx ci k0 t : Nat} {kk : Int} {d : String} {fin : Bool} {v : Value} {ty : FieldType} {f' : q_F} {rf' : Int → Int → Int} (hd : decode (q_cc M) pc = .ok (.putfield idx, 3)) (hl : q_fl (q_y M).cls idx ci k0 kk d fin t) (hq : q_ce N q ci n) (hty : parseFieldDescriptor d = some ty) (hn : narrow ty v = v) (hfit : fits ty v = true)
    (hfin : fin = false ∨ (fin = true ∧ (q_y M).name = "<init>" ∧ ∀ c : vw_C, q_cl[ci]? = some c → (c.2.1 k0).1 = (q_y M).cls))
    (hv : q_val D t (f' q kk) (rf' q kk) = v) (hf : ∀ a b, (a ≠ q ∨ b ≠ kk) → f' a b = f a b ∧ rf' a b = rf a b) (k : V D C M (pc + 3) L st (N, rf', cs, ss) f') : V D C M pc L (v :: vr D q :: st) (N, rf, cs, ss) f := by
  intro hC H ls locs hW hL hlo
  obtain ⟨c, hc, hk0, rfl, hde, hfi, ht, hci, hlink⟩ := hl
  obtain ⟨h0, hN, hkn⟩ := hq
  obtain ⟨e1, -⟩ := q_kq h0 hkn
  obtain ⟨cell, a1, a2, a3, a4⟩ := (hW.2.2 q.toNat (by show q.toNat < N; omega)).1 c (by rw [e1]; exact hc)
  have hK := hC.2.2.2.2.2.2.2.2.1
  have hts := hC.2.2.2.2.1
  obtain ⟨hS, hfc, kC, hkC, hkind⟩ := hK.1 ci c hc
  obtain ⟨cf, kf, fi, fd, hi, hsl⟩ := hS k0 hk0
  obtain ⟨hin, ⟨ty0, hty0⟩, hnm⟩ := q_clsok ci c hc
  have hap : ∀ x y, x < c.2.2 → y < c.2.2 → x ≠ y → (D.2.2.2.1 ci) x ≠ (D.2.2.2.1 ci) y := va_apart (own := "") (D := (D.2.2.1, D.2.2.2.1)) (cl := q_cl) (tys := []) hts hin ty0 hty0 hnm ⟨hK.1, fun k q h => by simp at h⟩ hc
  have hst := (u_facts hfc hkC (u_lays hts hin hk0) hi).1
  rw [e1] at a2 a4
  have hlay := hts _ (hin _ (u_in_lay hk0))
  have hlt : fd.slot < cell.slots.size := by rw [hsl]; exact k2_hasslot (a4 k0 hk0)
  have fin2 : ∀ H' : Heap, H'[D.1 + q.toNat]? = some (cell.setSlot fd.slot v) → H'.size = H.size → (∀ p, p ≠ D.1 + q.toNat → H'[p]? = H[p]?) → W (c_p C) (c_l C) (c_e C) (c_R C) (c_s C) (c_m C) (c_a C) (c_b C) (c_t C) (c_c C) H' (locs ++ [⟨D.1 + q.toNat, fd.slot⟩]) cs ss (c_Q C) (F0 (c_m C) (pc + 3) ls st) := by
    intro H' h1 h2 h3
    refine k hC H' ls _ (hW.upd (j := q.toNat) rfl h2 h3 ⟨fun c' hc' => ?_, fun hk => by rw [e1] at hk; omega⟩ (fun j' hj' => ?_)) hL (fun p hp => ?_)
    · rw [e1] at hc'
      cases hc.symm.trans hc'
      rw [e1]
      rw [hsl] at h1
      refine t_OB.to ⟨_, h1, a2, a3, t_set a4 hap hk0 v⟩ (fun j _ => ?_)
      unfold updV q_sv
      by_cases e : j = k0
      · subst e
        rw [if_pos rfl, Int.toNat_of_nonneg h0, q_tf hkn hci, ht]
        exact hv.symm
      · rw [if_neg e]
        show q_val D _ (f _ _) (rf _ _) = q_val D _ (f' _ _) (rf' _ _)
        obtain ⟨g1, g2⟩ := hf (q.toNat : Int) j (Or.inr (by omega))
        rw [g1, g2]
    · funext j
      unfold q_sv
      show q_val D _ (f' _ _) (rf' _ _) = q_val D _ (f _ _) (rf _ _)
      obtain ⟨g1, g2⟩ := hf (j' : Int) j (Or.inl (by omega))
      rw [g1, g2]
    · rcases List.mem_append.mp hp with h | h
      · exact hlo p h
      · rw [List.mem_singleton.mp h]; exact Nat.le_add_right _ _
  have hfits := u_fits hfc hkC hkind (u_lays hts hin hk0) hi (by rw [hde]; exact hty) hn hfit
  rcases hfin with hfin | ⟨hin0, hin1, hin3⟩
  · unfold u_lay at hlay
    rw [if_neg (by rw [hfi, hfin]; decide)] at hlay
    have h6 := u_store hfc hkC hkind hlay hi (by rw [hde]; exact hty) hn hfit
    exact W.putK hC.1 hC.2.1 ⟨hC.2.2.2.1, hts _ hlink, ⟨cf, kf, fi, hi⟩, hst⟩ (by rw [a2]; exact h6) a1 a3 hlt rfl rfl hd fin2
  · unfold u_lay at hlay
    rw [if_pos (by rw [hfi, hin0])] at hlay
    have hcf : (c_m C).cls = cf := by
      obtain ⟨_, _, c', _, _, _, -, -, hf', -, -, -, hown2, -⟩ := Cond.laysFinal_spec hlay
      have e1 : c' = cf := by have := hi.symm.trans hf'; simp at this; exact this.1.symm
      rw [hin3 c hc] at hown2
      rw [← e1]; exact Option.some.inj (hC.2.2.2.1.symm.trans hown2)
    exact W.putFinK hC.1 hC.2.1 hC.2.2.2.1 (hts _ hlink) hi hst hcf (by rw [hC.2.2.2.2.2.2.2.1]; exact hin1) (by rw [a2]; exact hfits) a1 a3 hlt rfl rfl hd fin2
theorem V_putI {idx ci k0 : Nat} {kk x : Int} (hd : decode (q_cc M) pc = .ok (.putfield idx, 3)) (hl : q_fl (q_y M).cls idx ci k0 kk "I" false 0) (hq : q_ce N q ci n) (k : V D C M (pc + 3) L st (N, rf, cs, ss) (q_up f q kk x)) : V D C M pc L (vi x :: vr D q :: st) (N, rf, cs, ss) f :=
  V_put (ty := .int) hd hl hq rfl rfl rfl (Or.inl rfl) (by rw [q_up_eq]; rfl) (fun a b h => ⟨q_up_ne h, rfl⟩) k
theorem V_putL {idx ci k0 : Nat} {kk x : Int} (hd : decode (q_cc M) pc = .ok (.putfield idx, 3)) (hl : q_fl (q_y M).cls idx ci k0 kk "J" false 1) (hq : q_ce N q ci n) (k : V D C M (pc + 3) L st (N, rf, cs, ss) (q_up f q kk x)) : V D C M pc L (vl x :: vr D q :: st) (N, rf, cs, ss) f :=
  V_put (ty := .long) hd hl hq rfl rfl rfl (Or.inl rfl) (by rw [q_up_eq]; rfl) (fun a b h => ⟨q_up_ne h, rfl⟩) k
theorem V_putF {idx ci k0 : Nat} {kk r : Int} {d : String} {ty : FieldType} (hd : decode (q_cc M) pc = .ok (.putfield idx, 3)) (hl : q_fl (q_y M).cls idx ci k0 kk d true 2) (hq : q_ce N q ci n) (hty : parseFieldDescriptor d = some ty) (hn : narrow ty (vr D r) = vr D r) (hfit : fits ty (vr D r) = true) (hin : (q_y M).name = "<init>") (hcl : ∀ c : vw_C, q_cl[ci]? = some c → (c.2.1 k0).1 = (q_y M).cls) (hr : 0 ≤ r) (k : V D C M (pc + 3) L st (N, q_up rf q kk r, cs, ss) f) : V D C M pc L (vr D r :: vr D q :: st) (N, rf, cs, ss) f :=
  V_put (ty := ty) (f' := f) (rf' := q_up rf q kk r) hd hl hq hty hn hfit (Or.inr ⟨rfl, hin, hcl⟩) (by rw [q_up_eq]; show (if r < 0 then Value.null else vr D r) = _; rw [if_neg (by omega)]) (fun a b h => ⟨rfl, q_up_ne h⟩) k
theorem V_putR {idx ci k0 : Nat} {kk r : Int} {d : String} {ty : FieldType} (hd : decode (q_cc M) pc = .ok (.putfield idx, 3)) (hl : q_fl (q_y M).cls idx ci k0 kk d false 2) (hq : q_ce N q ci n) (hty : parseFieldDescriptor d = some ty) (hn : narrow ty (vr D r) = vr D r) (hfit : fits ty (vr D r) = true) (hr : 0 ≤ r) (k : V D C M (pc + 3) L st (N, q_up rf q kk r, cs, ss) f) : V D C M pc L (vr D r :: vr D q :: st) (N, rf, cs, ss) f :=
  V_put (ty := ty) (f' := f) (rf' := q_up rf q kk r) hd hl hq hty hn hfit (Or.inl rfl) (by rw [q_up_eq]; show (if r < 0 then Value.null else vr D r) = _; rw [if_neg (by omega)]) (fun a b h => ⟨rfl, q_up_ne h⟩) k
end HEAP
