/-! rows for constructors: what is not made yet is blank -/
section INITR
variable {D : q_D} {C : q_C} {M M' : q_M} {pc N N' cs ss cs' ss' : Nat} {L st : List Value} {rf : Int → Int → Int} {f : q_F}
def fresh (N : Nat) (rf : Int → Int → Int) (f : q_F) : Prop := ∀ j k : Int, (N : Int) ≤ j → f j k = 0 ∧ rf j k = -1
theorem fresh.mono (N' : Nat) (h : fresh N rf f) (hN : N ≤ N') : fresh N' rf f := fun j k hj => h j k (by omega)
theorem fresh.upR (q k r : Int) (h : fresh N rf f) (hq : q < (N : Int)) : fresh N (q_up rf q k r) f := fun j k2 hj => ⟨(h j k2 hj).1, by rw [q_up_ne (Or.inl (by omega))]; exact (h j k2 hj).2⟩
theorem fresh.upI (q k x : Int) (h : fresh N rf f) (hq : q < (N : Int)) : fresh N rf (q_up f q k x) := fun j k2 hj => ⟨by rw [q_up_ne (Or.inl (by omega))]; exact (h j k2 hj).1, (h j k2 hj).2⟩
theorem fresh.grid (N' n : Nat) (h : fresh N rf f) (hN : N + 1 + n ≤ N') : fresh N' (rfg rf N n) f := fun j k hj => ⟨(h j k (by omega)).1, by unfold rfg; rw [if_neg (fun e => by omega)]; exact (h j k (by omega)).2⟩
def q_fd : FieldType → Nat
  | .int => 0
  | .long => 1
  | .array _ => 2
  | .object _ => 2
  | _ => 9
theorem q_fd_df {ty : FieldType} {t : Nat} (h : q_fd ty = t) (ht : t ≤ 2) : defaultValue ty = q_df t := by
  subst h
  cases ty <;> first | rfl | (exfalso; revert ht; decide)
theorem q_kn1 {r : Int} {a : Nat} {x : Int} (h : q_kn r = (a, x)) : q_k r = a ∧ q_n r = x := ⟨by unfold q_k; rw [h], by unfold q_n; rw [h]⟩
theorem I_ai {x r : Int} (N' cs' ss' : Nat) (hd : decode (q_cc M) pc = .ok (.newarray .int, 2)) (hkn : q_kn r = (20, x)) (hr : (N : Int) = r) (hz : N' = N + 1 ∧ cs' = cs + 1 ∧ ss' = ss + x.toNat ∧ 0 ≤ x ∧ x ≤ 10000) (hF : fresh N rf f) (hroom : cs' ≤ q_mc M ∧ ss' ≤ q_ms M) (k : V D C M (pc + 2) L (vr D r :: st) (N', rf, cs', ss') f) : V D C M pc L (vi x :: st) (N, rf, cs, ss) f := by
  obtain ⟨rfl, rfl, rfl, h0, h1⟩ := hz
  subst hr
  obtain ⟨k1, k2⟩ := q_kn1 hkn
  exact V_newa (ty := .int) hd rfl rfl (q_in 68 (by decide +kernel) rfl) k1 k2 ⟨h0, h1⟩ (by decide) (by decide) (fun k => by unfold q_t; rw [k1]; rfl) (fun k => hF _ k (Int.le_refl _)) hroom k
theorem I_al {x r : Int} (N' cs' ss' : Nat) (hd : decode (q_cc M) pc = .ok (.newarray .long, 2)) (hkn : q_kn r = (21, x)) (hr : (N : Int) = r) (hz : N' = N + 1 ∧ cs' = cs + 1 ∧ ss' = ss + x.toNat ∧ 0 ≤ x ∧ x ≤ 10000) (hF : fresh N rf f) (hroom : cs' ≤ q_mc M ∧ ss' ≤ q_ms M) (k : V D C M (pc + 2) L (vr D r :: st) (N', rf, cs', ss') f) : V D C M pc L (vi x :: st) (N, rf, cs, ss) f := by
  obtain ⟨rfl, rfl, rfl, h0, h1⟩ := hz
  subst hr
  obtain ⟨k1, k2⟩ := q_kn1 hkn
  exact V_newa (ty := .long) hd rfl rfl (q_in 1173 (by decide +kernel) rfl) k1 k2 ⟨h0, h1⟩ (by decide) (by decide) (fun k => by unfold q_t; rw [k1]; rfl) (fun k => hF _ k (Int.le_refl _)) hroom k
theorem I_ac {x r : Int} (N' cs' ss' : Nat) (hd : decode (q_cc M) pc = .ok (.newarray .char, 2)) (hkn : q_kn r = (22, x)) (hr : (N : Int) = r) (hz : N' = N + 1 ∧ cs' = cs + 1 ∧ ss' = ss + x.toNat ∧ 0 ≤ x ∧ x ≤ 10000) (hF : fresh N rf f) (hroom : cs' ≤ q_mc M ∧ ss' ≤ q_ms M) (k : V D C M (pc + 2) L (vr D r :: st) (N', rf, cs', ss') f) : V D C M pc L (vi x :: st) (N, rf, cs, ss) f := by
  obtain ⟨rfl, rfl, rfl, h0, h1⟩ := hz
  subst hr
  obtain ⟨k1, k2⟩ := q_kn1 hkn
  exact V_newa (ty := .char) hd rfl rfl (q_in 1172 (by decide +kernel) rfl) k1 k2 ⟨h0, h1⟩ (by decide) (by decide) (fun k => by unfold q_t; rw [k1]; rfl) (fun k => hF _ k (Int.le_refl _)) hroom k
theorem I_mu {idx n : Nat} {x y r : Int} (N' cs' ss' : Nat) (hd : decode (q_cc M) pc = .ok (.multianewarray idx 2, 4)) (hcl : Cond.classLink (q_y M).cls idx "[[I" ∈ q_T) (hkn : q_kn r = (23, x)) (hrow : ∀ i : Nat, i < x.toNat → q_kn (r + 1 + i) = (20, y)) (hr : (N : Int) = r) (hz : N' = N + 1 + n ∧ cs' = cs + 1 + n ∧ ss' = ss + n + n * y.toNat ∧ n = x.toNat ∧ 0 ≤ x ∧ x ≤ 100 ∧ 0 ≤ y ∧ y ≤ 10000) (hF : fresh N rf f) (hroom : cs' ≤ q_mc M ∧ ss' ≤ q_ms M) (k : V D C M (pc + 4) L (vr D r :: st) (N', rfg rf N n, cs', ss') f) : V D C M pc L (vi y :: vi x :: st) (N, rf, cs, ss) f := by
  obtain ⟨rfl, rfl, rfl, rfl, h0, h1, h2, h3⟩ := hz
  subst hr
  obtain ⟨k1, k2⟩ := q_kn1 hkn
  refine V_multi hd hcl k1 k2 (fun k => by unfold q_t; rw [k1]; rfl) (fun i hi => ?_) ⟨h0, h1⟩ ⟨h2, h3⟩ hF (by omega) k
  have h := hrow i hi
  rw [show (N : Int) + 1 + i = ((N + 1 + i : Nat) : Int) by omega] at h
  obtain ⟨a1, a2⟩ := q_kn1 h
  exact ⟨a1, a2, fun k => by unfold q_t; rw [a1]; rfl⟩
theorem I_new {idx ci n : Nat} {X : String} {Tb : u_T} {r : Int} (ty : Nat → FieldType) (N' cs' ss' : Nat) (hd : decode (q_cc M) pc = .ok (.new idx, 3)) (hcl : Cond.classLink (q_y M).cls idx X ∈ q_T) (hin : Cond.instantiable X n ∈ q_T) (hini : Cond.initialized X ∈ q_T) (hk : q_k r = ci) (hc : q_cl[ci]? = some (X, Tb, n)) (hty : ∀ k, k < n → parseFieldDescriptor (Tb k).2.2.1 = some (ty k)) (hfd : ∀ k : Nat, k < n → q_fd (ty k) = q_t r k ∧ q_t r k ≤ 2) (hr : (N : Int) = r) (hz : N' = N + 1 ∧ cs' = cs + 1 ∧ ss' = ss + n) (hF : fresh N rf f) (hroom : cs' ≤ q_mc M ∧ ss' ≤ q_ms M) (k : V D C M (pc + 3) L (vr D r :: st) (N', rf, cs', ss') f) : V D C M pc L st (N, rf, cs, ss) f := by
  obtain ⟨rfl, rfl, rfl⟩ := hz
  subst hr
  exact V_new ty hd hcl hin hini hk hc (q_clsok ci _ hc).1 hty (fun k hk => q_fd_df (hfd k hk).1 (hfd k hk).2) (fun k => hF _ k (Int.le_refl _)) hroom k
theorem q_ovu : (q_o vu).toList = [] := by unfold q_o; rw [if_pos rfl]; rfl
theorem I_cI {idx n : Nat} {q : Int} {As rest : List Value} {rf' : Int → Int → Int} {f' : q_F} (N' cs' ss' : Nat) (hd : decode (q_cc M) pc = .ok (.invokespecial idx, 3)) (hl : Cond.methodLink (q_y M).cls idx (q_y M') ∈ q_T) (hm : q_mi M' n) (hv : Cond.instanceMethod (q_y M') ∈ q_T) (hre : q_re M' = none ∧ (q_y M').name = "<init>") (hdp : q_dp M' + 1 ≤ q_dp M) (hn : As.length = n) (hwt : q_wt rest ≤ 8) (hz : cs' = cs + q_mc M' ∧ ss' = ss + q_ms M' ∧ cs' ≤ q_mc M ∧ ss' ≤ q_ms M) (ok : Ok D M' (vr D q :: As) (N, rf, 0, 0) f (fun v z' f2 => v = vu ∧ z'.1 = N' ∧ z'.2.1 = rf' ∧ f2 = f')) (k : V D C M (pc + 3) L rest (N', rf', cs', ss') f') : V D C M pc L (As.reverse ++ vr D q :: rest) (N, rf, cs, ss) f := by
  obtain ⟨rfl, rfl, h1, h2⟩ := hz
  refine V_callI (M' := M') hd hl hm hv hre.1 hre.2 hdp hn hwt ⟨h1, h2⟩ ok (fun v z' f2 h => ?_)
  obtain ⟨rfl, rfl, rfl, rfl⟩ := h
  rw [q_ovu]; exact k
theorem I_cN {idx n : Nat} {q : Int} {host : String} {As rest : List Value} {rf' : Int → Int → Int} {f' : q_F} (N' cs' ss' : Nat) (hd : decode (q_cc M) pc = .ok (.invokespecial idx, 3)) (hl : Cond.methodLinkNest (q_y M).cls idx (q_y M') host ∈ q_nest) (hm : q_mi M' n) (hv : Cond.instanceMethod (q_y M') ∈ q_T) (hre : q_re M' = none ∧ (q_y M').name = "<init>") (hdp : q_dp M' + 1 ≤ q_dp M) (hn : As.length = n) (hwt : q_wt rest ≤ 8) (hz : cs' = cs + q_mc M' ∧ ss' = ss + q_ms M' ∧ cs' ≤ q_mc M ∧ ss' ≤ q_ms M) (ok : Ok D M' (vr D q :: As) (N, rf, 0, 0) f (fun v z' f2 => v = vu ∧ z'.1 = N' ∧ z'.2.1 = rf' ∧ f2 = f')) (k : V D C M (pc + 3) L rest (N', rf', cs', ss') f') : V D C M pc L (As.reverse ++ vr D q :: rest) (N, rf, cs, ss) f := by
  obtain ⟨rfl, rfl, h1, h2⟩ := hz
  refine V_callN (M' := M') hd hl hm hv hre.1 hre.2 hdp hn hwt ⟨h1, h2⟩ ok (fun v z' f2 h => ?_)
  obtain ⟨rfl, rfl, rfl, rfl⟩ := h
  rw [q_ovu]; exact k
theorem I_ok {as L0 : List Value} {n N' : Nat} {rf' : Int → Int → Int} {f' : q_F} (hm : q_mi M n) (hre : q_re M = none) (hL : q_ent as (q_ml M) = L0) (hsz : (lg_sl as).length ≤ q_ml M) (h : ∀ C : q_C, (∀ cs' ss' : Nat, cs' ≤ q_mc M → ss' ≤ q_ms M → q_ret D C M vu (N', rf', cs', ss') f') → V D C M 0 L0 [] (N, rf, 0, 0) f) : Ok D M as (N, rf, 0, 0) f (fun v z' f2 => v = vu ∧ z'.1 = N' ∧ z'.2.1 = rf' ∧ f2 = f') :=
  Ok_of hm rfl hL hsz (fun C hC => h C (fun cs' ss' h1 h2 => hC vu (N', rf', cs', ss') f' h1 h2 ⟨rfl, hre⟩ ⟨rfl, rfl, rfl, rfl⟩))
end INITR
