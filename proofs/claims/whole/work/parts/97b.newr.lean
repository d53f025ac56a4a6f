/-! rows: new objects and arrays -/
section NEWR
variable {D : q_D} {C : q_C} {M : q_M} {pc N cs ss : Nat} {L st : List Value} {rf rf' : Int → Int → Int} {f f' : q_F}
theorem arrV_cg {cI : ClassId} {n : Nat} {u v : Nat → Value} (h : ∀ i, i < n → u i = v i) : arrV cI n u = arrV cI n v := by
  unfold arrV
  have : (Array.ofFn (n := n) fun j => u j.val) = Array.ofFn (n := n) fun j => v j.val := congrArg _ (funext fun j => h j.val j.isLt)
  rw [this]
/-- only slots that are there count -/
theorem V_cg (hv : ∀ j k : Nat, j < N → (∀ c : vw_C, q_cl[q_k j]? = some c → k < c.2.2) → (20 ≤ q_k j → k < (q_n j).toNat) → q_val D (q_t j k) (f j k) (rf j k) = q_val D (q_t j k) (f' j k) (rf' j k)) (k : V D C M pc L st (N, rf', cs, ss) f') : V D C M pc L st (N, rf, cs, ss) f := by
  intro hC H ls locs hW hL hlo
  refine k hC H ls locs ?_ hL hlo
  obtain ⟨h1, h2, h3⟩ := hW
  refine ⟨h1, h2, fun j hj => ⟨fun c hc => ?_, fun hk => ?_⟩⟩
  · have hlt : q_k j < 20 := by
      have := (List.getElem?_eq_some_iff.mp hc).1
      have h20 : q_cl.length ≤ 20 := by decide +kernel
      omega
    refine t_OB.to ((h3 j hj).1 c hc) (fun i hi => ?_)
    exact hv j i hj (fun c' hc' => by rw [hc] at hc'; cases hc'; exact hi) (fun h20 => absurd h20 (by omega))
  · rw [(h3 j hj).2 hk]
    refine congrArg some (arrV_cg (fun i hi => ?_))
    exact hv j i hj (fun c hc => by
      have := (List.getElem?_eq_some_iff.mp hc).1
      have h20 : q_cl.length ≤ 20 := by decide +kernel
      omega) (fun _ => hi)
/-- one more cell -/
theorem q_W.more {H H' : Heap} (hW : q_W D (N, rf, cs, ss) f H) {cs' ss' : Nat} (hs : H'.size = H.size + 1) (ho : ∀ q, q < H.size → H'[q]? = H[q]?) (hat : q_at D (N + 1, rf, cs', ss') f H' N) : q_W D (N + 1, rf, cs', ss') f H' := by
  obtain ⟨h1, h2, h3⟩ := hW
  have h1 : H.size = D.1 + N := h1
  refine ⟨by show H'.size = D.1 + (N + 1); omega, fun q hq => by rw [ho q (by omega)]; exact h2 q hq, fun j hj => ?_⟩
  have hj : j < N + 1 := hj
  by_cases e : j = N
  · rw [e]; exact hat
  · obtain ⟨g1, g2⟩ := h3 j (by show j < N; omega)
    have hh : H'[D.1 + j]? = H[D.1 + j]? := ho _ (by omega)
    exact ⟨fun c hc => (g1 c hc).kept hh, fun hk => by rw [hh]; exact g2 hk⟩
def q_df (t : Nat) : Value := match t with
  | 0 => .int 0
  | 1 => .long 0
  | _ => .null
theorem q_val0 (t : Nat) : q_val D t 0 (-1) = q_df t := by
  match t with
  | 0 => rfl
  | 1 => rfl
  | t + 2 => rfl
theorem V_new {idx ci n : Nat} {X : String} {Tb : u_T} (ty : Nat → FieldType) (hd : decode (q_cc M) pc = .ok (.new idx, 3)) (hcl : Cond.classLink (q_y M).cls idx X ∈ q_T) (hin : Cond.instantiable X n ∈ q_T) (hini : Cond.initialized X ∈ q_T) (hk : q_k (N : Int) = ci) (hc : q_cl[ci]? = some (X, Tb, n)) (hws : ∀ w ∈ u_ws X Tb n, w ∈ q_T) (hty : ∀ k, k < n → parseFieldDescriptor (Tb k).2.2.1 = some (ty k)) (hdf : ∀ k : Nat, k < n → defaultValue (ty k) = q_df (q_t (N : Int) k)) (hf : ∀ k : Int, f N k = 0 ∧ rf N k = -1) (hroom : cs + 1 ≤ q_mc M ∧ ss + n ≤ q_ms M) (k : V D C M (pc + 3) L (vr D N :: st) (N + 1, rf, cs + 1, ss + n) f) : V D C M pc L st (N, rf, cs, ss) f := by
  intro hC H ls locs hW hL hlo
  have hC' := hC
  obtain ⟨hx, hb, hml, hown, hts, hlk, hre, hnm, hK, hfr, hlo2, hce, hsl⟩ := hC
  have hKn := hK.1 ci _ hc
  have hsz : H.size = D.1 + N := hW.1
  refine W.newcK hx hb hown (hts _ hcl) (hts _ hin) (hts _ hini) rfl hd (by show cs + 1 ≤ _; omega) (by show ss + n ≤ _; omega) hKn.2.1 hsz fun H1 kC hkC e1 z1 o1 => ?_
  refine k hC' H1 ls locs (hW.more (by rw [z1, hsz]) (fun q hq => o1 q (by omega)) ⟨fun c hcc => ?_, fun hk20 => ?_⟩) hL hlo
  · rw [hk] at hcc
    rw [hc] at hcc
    cases hcc
    have hob := u_born ty hts hws hKn hkC e1 hty
    rw [hk]
    refine t_OB.to hob (fun i hi => ?_)
    unfold q_sv
    show _ = q_val D (q_t (N : Int) i) (f N i) (rf N i)
    rw [(hf i).1, (hf i).2, q_val0]; exact hdf i hi
  · exfalso
    have := (List.getElem?_eq_some_iff.mp hc).1
    have h20 : q_cl.length ≤ 20 := by decide +kernel
    omega
theorem V_newa {at_ : ArrayType} {a : Nat} {ty : FieldType} {x : Int} (hd : decode (q_cc M) pc = .ok (.newarray at_, 2)) (hty : newarray.typeOf at_ = ty) (haty : q_aty a = some ty) (hw : Cond.arrayClass ty ∈ q_T) (hk : q_k (N : Int) = a) (hn : q_n (N : Int) = x) (hx0 : 0 ≤ x ∧ x ≤ 10000) (ha : 20 ≤ a) (hbytes : componentBytes ty ≤ 8) (hdf : ∀ k : Nat, defaultValue ty = q_df (q_t (N : Int) k)) (hf : ∀ k : Int, f N k = 0 ∧ rf N k = -1) (hroom : cs + 1 ≤ q_mc M ∧ ss + x.toNat ≤ q_ms M) (k : V D C M (pc + 2) L (vr D N :: st) (N + 1, rf, cs + 1, ss + x.toNat) f) : V D C M pc L (vi x :: st) (N, rf, cs, ss) f := by
  intro hC H ls locs hW hL hlo
  have hC' := hC
  obtain ⟨hx, hb, hml, hown, hts, hlk, hre, hnm, hK, hfr, hlo2, hce, hsl⟩ := hC
  have hsz : H.size = D.1 + N := hW.1
  subst hty
  have hti : (Int32.ofInt x).toInt = x := q_ti (by omega)
  have hN : (Int32.ofInt x).toNatClampNeg = x.toNat := by
    show (Int32.ofInt x).toInt.toNat = _; rw [hti]
  have hneg : ¬ Int32.ofInt x < 0 := by
    rw [Int32.lt_iff_toInt_lt, hti]
    show ¬ x < (0 : Int32).toInt
    rw [show (0 : Int32).toInt = 0 from rfl]; omega
  have hby : x.toNat * componentBytes (newarray.typeOf at_) ≤ 536870912 := by
    have h1 : x.toNat * componentBytes (newarray.typeOf at_) ≤ 10000 * 8 := Nat.mul_le_mul (by omega) hbytes
    omega
  refine va_newaK hx hb (hts _ hw) rfl hd rfl hneg hN hby (by show cs + 1 ≤ _; omega) (by show ss + x.toNat ≤ _; omega) hsz fun H1 cA e1 z1 o1 hAr hNm => ?_
  have hcA : cA = D.2.2.2.2.1 a := by
    have := (hK.2.1 a _ haty).2
    rw [hNm] at this; cases this; rfl
  refine k hC' H1 ls locs (hW.more (by rw [z1, hsz]) (fun q hq => o1 q (by omega)) ⟨fun c hcc => ?_, fun _ => ?_⟩) hL hlo
  · exfalso
    rw [hk] at hcc
    have := (List.getElem?_eq_some_iff.mp hcc).1
    have h20 : q_cl.length ≤ 20 := by decide +kernel
    omega
  · rw [e1, hk, hn, hcA]
    refine congrArg some (arrV_cg (fun i hi => ?_))
    unfold q_sv
    show _ = q_val D (q_t (N : Int) i) (f N i) (rf N i)
    rw [(hf i).1, (hf i).2, q_val0]; exact hdf i
theorem V_obj {idx : Nat} {q : Int} (hd : decode (q_cc M) pc = .ok (.invokespecial idx, 3)) (hl : Cond.methodLink (q_y M).cls idx Lib.objectInit ∈ q_T) (hi : Cond.instanceMethod Lib.objectInit ∈ q_T) (hc : Cond.code Lib.objectInit ⟨#[0xb1]⟩ 1 none ∈ q_T) (hdp : 1 ≤ q_dp M) (k : V D C M (pc + 3) L [] (N, rf, cs, ss) f) : V D C M pc L [vr D q] (N, rf, cs, ss) f := by
  intro hC H ls locs hW hL hlo
  have hC' := hC
  obtain ⟨hx, hb, hml, hown, hts, hlk, hre, hnm, hK, hfr, hlo2, hce, hsl⟩ := hC
  refine W.objInit hx hb hown (hts _ hl) (hts _ hi) (hts _ hc) rfl ?_ rfl hd (by omega) ?_ (k hC' H ls locs hW hL hlo)
  · rw [hml]; exact q_lsz hL
  · show 2 * 0 + 0 + 12 ≤ _; omega
end NEWR
