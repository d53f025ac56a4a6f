/-! calls by contract -/
theorem q_blind (D : q_D) (as : List Value) (z : q_Z) (f : q_F) : FrameBlind (q_Pc D as z f) := fun a U g mk h => ⟨h.1, h.2.1, q_K.same (u := U) (U := U.calling g mk a) rfl h.2.2⟩
theorem q_cw {D : q_D} {C : q_C} {M M' : q_M} {n idx : Nat} (hC : q_ok D C M) (hl : Cond.methodLink (q_y M).cls idx (q_y M') ∈ q_T) (hm : q_mi M' n) (hdp : q_dp M' + 1 ≤ q_dp M) :
    CallB (c_R C) (c_s C) (c_a C) (q_y M).cls idx (q_y M') (q_cc M') (q_ml M') (q_re M') (q_ws M') (q_rm M') (q_mc M') (q_ms M') n := by
  obtain ⟨hx, hb, hml, hown, hts, hlk, hre, hnm, hK, hf, hlo, -, -⟩ := hC
  obtain ⟨h1, h2, h3, h4, h5, h6⟩ := hm
  refine ⟨rfl, rfl, ?_, ?_, ?_, List.mem_cons_self, hts _ h1, hts _ h2, h4, fun sig h => ?_, hts _ hl⟩
  · show q_dp M' + 1 ≤ _; omega
  · show 8 + (q_ml M' + 11) + 41 * q_dp M' ≤ _; omega
  · intro w hw a' U hW
    rcases List.mem_cons.mp hw with rfl | hw
    · exact word_at hW (q_good h1) (hts _ h1)
    · exact word_at hW (q_good hw) (hts _ hw)
  · rw [h] at h5; exact (Option.some.inj h5).symm
theorem q_recv {D : q_D} {z : q_Z} {f : q_F} {H : Heap} {U : State} {q : Int} {ci : Nat} {nm : String} (hW : q_W D z f H) (hK : q_K D U) (h0 : 0 ≤ q) (hn : q.toNat < z.1) (hk : q_k q = ci) (hc : (q_cl[ci]?).map (·.1) = some nm) :
    ∃ cellB : Cell, H[D.1 + q.toNat]? = some cellB ∧ cellB.vm.isStatics = false ∧ U.vm.findClass nm = some cellB.cls := by
  cases hq : q_cl[ci]? with
  | none => rw [hq] at hc; cases hc
  | some c =>
    rw [hq] at hc
    have hcn : c.1 = nm := Option.some.inj hc
    have hk' : q_k (q.toNat : Int) = ci := by rw [Int.toNat_of_nonneg h0]; exact hk
    obtain ⟨h1, -⟩ := hW.2.2 q.toNat hn
    obtain ⟨cell, e1, e2, e3, -⟩ := h1 c (by rw [hk']; exact hq)
    refine ⟨cell, e1, by rw [e3]; rfl, ?_⟩
    rw [e2, hk', ← hcn]
    exact (hK.1 ci c hq).2.1
def q_wt (rest : List Value) : Nat := (rest.map fun v => v.category).sum
theorem V_run {D : q_D} {C : q_C} {M M' : q_M} {pc : Nat} {L st0 rest : List Value} {z : q_Z} {f : q_F} {a : Array Value} {Q : Value → q_Z → q_F → Prop}
    (hr : q_ok D C M → ∀ (H : Heap) (ls : Array Slot) (locs : List Loc), q_W D z f H → q_L L ls (q_ml M) →
      va_Run (c_p C) (c_l C) (c_e C) (c_R C) (c_s C) (c_m C) (c_a C) (c_b C) (c_t C) (c_c C) H locs z.2.2.1 z.2.2.2 (q_mc M') (q_ms M') (F0 (c_m C) pc ls st0) rest (q_Qc D Q a) (fun a => D.1 ≤ a))
    (k : ∀ v z' f', Q v z' f' → V D C M (pc + 3) L ((q_o v).toList ++ rest) (z'.1, z'.2.1, z.2.2.1 + q_mc M', z.2.2.2 + q_ms M') f') : V D C M pc L st0 z f := by
  intro hC H ls locs hW hL hlo T hT X
  obtain ⟨v, st₀, t, T', L', h0, X', hL', e1, e2, ⟨v', z', f', hv, hW', hQ⟩, st⟩ := hr hC H ls locs hW hL T hT X
  cases hv
  obtain ⟨t2, a1, b1⟩ := k v' z' f' hQ hC t.heap ls (locs ++ L') hW' hL (fun q hq => (List.mem_append.mp hq).elim (hlo q) (hL' q)) T' e1 X'
  exact ⟨t2, st t2 a1, b1⟩
theorem q_lsz {L : List Value} {ls : Array Slot} {n : Nat} (h : q_L L ls n) : ls.size = n := h.2.1
theorem V_callV {D : q_D} {C : q_C} {M M' : q_M} {pc idx n ci : Nat} {L As rest : List Value} {q : Int} {z : q_Z} {f : q_F} {Q : Value → q_Z → q_F → Prop}
    (hd : decode (q_cc M) pc = .ok (.invokevirtual idx, 3)) (hl : Cond.methodLink (q_y M).cls idx (q_y M') ∈ q_T) (hm : q_mi M' n) (hv : q_mv M') (hci : (q_cl[ci]?).map (·.1) = some (q_y M').cls) (hdp : q_dp M' + 1 ≤ q_dp M) (hn : As.length = n) (hwt : q_wt rest ≤ 8)
    (h0 : 0 ≤ q) (hq : q.toNat < z.1) (hk : q_k q = ci) (hR : z.2.2.1 + q_mc M' ≤ q_mc M ∧ z.2.2.2 + q_ms M' ≤ q_ms M)
    (ok : Ok D M' (vr D q :: As) (z.1, z.2.1, 0, 0) f Q)
    (k : ∀ v z' f', Q v z' f' → V D C M (pc + 3) L ((q_o v).toList ++ rest) (z'.1, z'.2.1, z.2.2.1 + q_mc M', z.2.2.2 + q_ms M') f') : V D C M pc L (As.reverse ++ vr D q :: rest) z f := by
  refine V_run (a := (vr D q :: As).toArray) (rest := rest) (M' := M') (Q := Q) (fun hC H ls locs hW hL => ?_) k
  have hcb := q_cw hC hl hm hdp
  obtain ⟨hx, hb, hml, hown, hts, hlk, hre, hnm, hK, hfr, hlo, hce, hsl⟩ := hC
  refine va_runV (Ts := q_T) (As := As) (rest := rest) (nL := q_ml M) (C := (q_y M').cls) ⟨hx, hb, hml, hown, hts⟩ (ok (c_l C)) ⟨hcb, hts _ hv.1, hts _ hv.2⟩ ⟨q_blind D _ _ _, q_recv hW hK h0 hq hk hci, fun U hU hWm => ⟨rfl, ?_, hK.warm hWm⟩⟩ rfl hn (q_lsz hL) rfl (lv_room hwt) hd ⟨by omega, by omega⟩
  rw [hU]; exact hW
theorem V_callS {D : q_D} {C : q_C} {M M' : q_M} {pc idx n : Nat} {L As rest : List Value} {z : q_Z} {f : q_F} {Q : Value → q_Z → q_F → Prop}
    (hd : decode (q_cc M) pc = .ok (.invokestatic idx, 3)) (hl : Cond.methodLink (q_y M).cls idx (q_y M') ∈ q_T) (hm : q_mi M' n) (hv : Cond.static (q_y M') ∈ q_T) (hdp : q_dp M' + 1 ≤ q_dp M) (hn : As.length = n) (hwt : q_wt rest ≤ 8)
    (hR : z.2.2.1 + q_mc M' ≤ q_mc M ∧ z.2.2.2 + q_ms M' ≤ q_ms M)
    (ok : Ok D M' As (z.1, z.2.1, 0, 0) f Q)
    (k : ∀ v z' f', Q v z' f' → V D C M (pc + 3) L ((q_o v).toList ++ rest) (z'.1, z'.2.1, z.2.2.1 + q_mc M', z.2.2.2 + q_ms M') f') : V D C M pc L (As.reverse ++ rest) z f := by
  refine V_run (a := As.toArray) (rest := rest) (M' := M') (Q := Q) (fun hC H ls locs hW hL => ?_) k
  have hcb := q_cw hC hl hm hdp
  obtain ⟨hx, hb, hml, hown, hts, hlk, hre, hnm, hK, hfr, hlo, hce, hsl⟩ := hC
  refine va_runS (Ts := q_T) (As := As) (rest := rest) (nL := q_ml M) ⟨hx, hb, hml, hown, hts⟩ (ok (c_l C)) ⟨hcb, hts _ hv⟩ ⟨q_blind D _ _ _, fun U hU hWm => ⟨rfl, ?_, hK.warm hWm⟩⟩ rfl hn (q_lsz hL) rfl (lv_room hwt) hd ⟨by omega, by omega⟩
  rw [hU]; exact hW
theorem V_callI {D : q_D} {C : q_C} {M M' : q_M} {pc idx n : Nat} {L As rest : List Value} {q : Int} {z : q_Z} {f : q_F} {Q : Value → q_Z → q_F → Prop}
    (hd : decode (q_cc M) pc = .ok (.invokespecial idx, 3)) (hl : Cond.methodLink (q_y M).cls idx (q_y M') ∈ q_T) (hm : q_mi M' n) (hv : Cond.instanceMethod (q_y M') ∈ q_T) (hre : q_re M' = none) (hnm : (q_y M').name = "<init>") (hdp : q_dp M' + 1 ≤ q_dp M) (hn : As.length = n) (hwt : q_wt rest ≤ 8)
    (hR : z.2.2.1 + q_mc M' ≤ q_mc M ∧ z.2.2.2 + q_ms M' ≤ q_ms M)
    (ok : Ok D M' (vr D q :: As) (z.1, z.2.1, 0, 0) f Q)
    (k : ∀ v z' f', Q v z' f' → V D C M (pc + 3) L ((q_o v).toList ++ rest) (z'.1, z'.2.1, z.2.2.1 + q_mc M', z.2.2.2 + q_ms M') f') : V D C M pc L (As.reverse ++ vr D q :: rest) z f := by
  refine V_run (a := (vr D q :: As).toArray) (rest := rest) (M' := M') (Q := Q) (fun hC H ls locs hW hL => ?_) k
  have hcb := q_cw hC hl hm hdp
  rw [hre] at hcb
  obtain ⟨hx, hb, hml, hown, hts, hlk, -, -, hK, hfr, hlo, hce, hsl⟩ := hC
  refine va_runI (Ts := q_T) (As := As) (rest := rest) (nL := q_ml M) ⟨hx, hb, hml, hown, hts⟩ (ok (c_l C)) ⟨hcb, hnm, hts _ hv⟩ ⟨q_blind D _ _ _, fun U hU hWm => ⟨rfl, ?_, hK.warm hWm⟩⟩ rfl hn (q_lsz hL) rfl (lv_room hwt) hd ⟨by omega, by omega⟩
  rw [hU]; exact hW
theorem V_callN {D : q_D} {C : q_C} {M M' : q_M} {pc idx n : Nat} {host : String} {L As rest : List Value} {q : Int} {z : q_Z} {f : q_F} {Q : Value → q_Z → q_F → Prop}
    (hd : decode (q_cc M) pc = .ok (.invokespecial idx, 3)) (hl : Cond.methodLinkNest (q_y M).cls idx (q_y M') host ∈ q_nest) (hm : q_mi M' n) (hv : Cond.instanceMethod (q_y M') ∈ q_T) (hre : q_re M' = none) (hnm : (q_y M').name = "<init>") (hdp : q_dp M' + 1 ≤ q_dp M) (hn : As.length = n) (hwt : q_wt rest ≤ 8)
    (hR : z.2.2.1 + q_mc M' ≤ q_mc M ∧ z.2.2.2 + q_ms M' ≤ q_ms M)
    (ok : Ok D M' (vr D q :: As) (z.1, z.2.1, 0, 0) f Q)
    (k : ∀ v z' f', Q v z' f' → V D C M (pc + 3) L ((q_o v).toList ++ rest) (z'.1, z'.2.1, z.2.2.1 + q_mc M', z.2.2.2 + q_ms M') f') : V D C M pc L (As.reverse ++ vr D q :: rest) z f := by
  refine V_run (a := (vr D q :: As).toArray) (rest := rest) (M' := M') (Q := Q) (fun hC H ls locs hW hL => ?_) k
  obtain ⟨hx, hb, hml, hown, hts, hlk, -, -, hK, hfr, hlo, hce, hsl⟩ := hC
  obtain ⟨h1, h2, h3, h4, h5, h6⟩ := hm
  rw [hre] at h1
  have hws : ∀ w ∈ q_ws M', ∀ (a' : Array Value) (U : State), (c_s C).WarmedH U.vm → w.before a' U = true := by
    intro w hw a' U hW
    unfold q_ws at hw
    rw [hre] at hw
    rcases List.mem_cons.mp hw with rfl | hw
    · exact word_at hW (q_good h1) (hts _ h1)
    · exact word_at hW (q_good hw) (hts _ hw)
  refine va_runIN (Ts := q_T) (As := As) (rest := rest) (nL := q_ml M) (bytes := q_cc M') (maxL := q_ml M') (n := n) (host := host) ⟨hx, hb, hml, hown, hts⟩ (ok (c_l C)) ⟨⟨⟨rfl, rfl, by show q_dp M' + 1 ≤ _; omega, by show 8 + (q_ml M' + 11) + 41 * q_dp M' ≤ _; omega, hws, by unfold q_ws; rw [hre]; exact List.mem_cons_self⟩, hts _ h1, hts _ h2, h4, fun sig h => by rw [h] at h5; exact (Option.some.inj h5).symm, va_Nw.use rfl (hK.2.2.1 _ hl)⟩, hnm, hts _ hv⟩ ⟨q_blind D _ _ _, fun U hU hWm => ⟨rfl, ?_, hK.warm hWm⟩⟩ rfl hn (q_lsz hL) rfl (lv_room hwt) hd ⟨by omega, by omega⟩
  rw [hU]; exact hW
/-- a contract of a method that makes nothing and leaves the shape -/
def Ok0 (D : q_D) (M : q_M) (as : List Value) (z : q_Z) (f : q_F) (P : Value → q_F → Prop) : Prop := Ok D M as z f (fun v z' f' => z' = z ∧ P v f')
def q_m0 (M : q_M) : Prop := q_mc M = 0 ∧ q_ms M = 0
theorem V_cv {D : q_D} {C : q_C} {M : q_M} (M' : q_M) {pc idx n ci : Nat} {L : List Value} (As : List Value) {rest : List Value} {q : Int} {N : Nat} {rf : Int → Int → Int} {f : q_F} {P : Value → q_F → Prop}
    (hd : decode (q_cc M) pc = .ok (.invokevirtual idx, 3)) (hl : Cond.methodLink (q_y M).cls idx (q_y M') ∈ q_T) (hm : q_mi M' n ∧ q_mv M' ∧ q_m0 M' ∧ (q_cl[ci]?).map (·.1) = some (q_y M').cls) (hdp : q_dp M' + 1 ≤ q_dp M) (hn : As.length = n) (hwt : q_wt rest ≤ 8)
    (hq : 0 ≤ q ∧ q.toNat < N) (hk : q_k q = ci)
    (ok : Ok0 D M' (vr D q :: As) (N, rf, 0, 0) f P)
    (k : ∀ v f', P v f' → V D C M (pc + 3) L ((q_o v).toList ++ rest) (N, rf, 0, 0) f') : V D C M pc L (As.reverse ++ vr D q :: rest) (N, rf, 0, 0) f := by
  have e := hm.2.2.1
  refine V_callV (M' := M') (ci := ci) hd hl hm.1 hm.2.1 hm.2.2.2 hdp hn hwt hq.1 hq.2 hk (by rw [e.1, e.2]; exact ⟨Nat.zero_le _, Nat.zero_le _⟩) ok (fun v z' f' h => ?_)
  obtain ⟨rfl, h⟩ := h
  rw [e.1, e.2]
  exact k v f' h
theorem V_cs {D : q_D} {C : q_C} {M : q_M} (M' : q_M) {pc idx n : Nat} {L : List Value} (As : List Value) {rest : List Value} {N : Nat} {rf : Int → Int → Int} {f : q_F} {P : Value → q_F → Prop}
    (hd : decode (q_cc M) pc = .ok (.invokestatic idx, 3)) (hl : Cond.methodLink (q_y M).cls idx (q_y M') ∈ q_T) (hm : q_mi M' n ∧ Cond.static (q_y M') ∈ q_T ∧ q_m0 M') (hdp : q_dp M' + 1 ≤ q_dp M) (hn : As.length = n) (hwt : q_wt rest ≤ 8)
    (ok : Ok0 D M' As (N, rf, 0, 0) f P)
    (k : ∀ v f', P v f' → V D C M (pc + 3) L ((q_o v).toList ++ rest) (N, rf, 0, 0) f') : V D C M pc L (As.reverse ++ rest) (N, rf, 0, 0) f := by
  have e := hm.2.2
  refine V_callS (M' := M') hd hl hm.1 hm.2.1 hdp hn hwt (by rw [e.1, e.2]; exact ⟨Nat.zero_le _, Nat.zero_le _⟩) ok (fun v z' f' h => ?_)
  obtain ⟨rfl, h⟩ := h
  rw [e.1, e.2]
  exact k v f' h
theorem Ok0_of {D : q_D} {M : q_M} {as L0 : List Value} {N : Nat} {rf : Int → Int → Int} {f : q_F} {P : Value → q_F → Prop} {n : Nat} (hm : q_mi M n) (hL : q_ent as (q_ml M) = L0) (hsz : (lg_sl as).length ≤ q_ml M)
    (h : ∀ C : q_C, (∀ (v : Value) (f' : q_F), q_fit M v → P v f' → q_ret D C M v (N, rf, 0, 0) f') → V D C M 0 L0 [] (N, rf, 0, 0) f) : Ok0 D M as (N, rf, 0, 0) f P :=
  Ok_of hm rfl hL hsz (fun C hC => h C (fun v f' hf hp => hC v (N, rf, 0, 0) f' (Nat.zero_le _) (Nat.zero_le _) hf ⟨rfl, hp⟩))
theorem Ok0.mono {D : q_D} {M : q_M} {as : List Value} {z : q_Z} {f : q_F} {P P' : Value → q_F → Prop} (h : Ok0 D M as z f P) (hp : ∀ v f', P v f' → P' v f') : Ok0 D M as z f P' := by
  intro l p e ha hc hk s m args below hf hap hP hK
  obtain ⟨k, o, h1, h2, h3, ⟨⟨v, z', f', e1, e2, e3, e4⟩, h5⟩⟩ := h l p e ha hc hk s m args below hf hap hP hK
  exact ⟨k, o, h1, h2, h3, ⟨⟨v, z', f', e1, e2, e3, hp _ _ e4⟩, h5⟩⟩
theorem V_ireturn {D : q_D} {C : q_C} {M : q_M} {pc : Nat} {L : List Value} {x : Int} {z : q_Z} {f : q_F} (hd : decode (q_cc M) pc = .ok (.ireturn, 1)) (h : q_ret D C M (vi x) z f) : V D C M pc L [vi x] z f :=
  fun hC H ls locs hW _ hlo => h hC H ls locs pc hW hlo hd
theorem V_lreturn {D : q_D} {C : q_C} {M : q_M} {pc : Nat} {L : List Value} {x : Int} {z : q_Z} {f : q_F} (hd : decode (q_cc M) pc = .ok (.lreturn, 1)) (h : q_ret D C M (vl x) z f) : V D C M pc L [vl x] z f :=
  fun hC H ls locs hW _ hlo => h hC H ls locs pc hW hlo hd
theorem V_return {D : q_D} {C : q_C} {M : q_M} {pc : Nat} {L : List Value} {z : q_Z} {f : q_F} (hd : decode (q_cc M) pc = .ok (.return_, 1)) (h : q_ret D C M vu z f) : V D C M pc L [] z f :=
  fun hC H ls locs hW _ hlo => h hC H ls locs pc hW hlo hd
