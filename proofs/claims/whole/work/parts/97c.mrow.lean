/-! the row: an array of rows -/
section MROW
variable {D : q_D} {C : q_C} {M : q_M} {pc N cs ss : Nat} {L st : List Value} {rf : Int → Int → Int} {f : q_F}
def rfg (rf : Int → Int → Int) (G n : Nat) : Int → Int → Int := fun j k => if j = (G : Int) ∧ 0 ≤ k ∧ k < (n : Int) then (G : Int) + 1 + k else rf j k
theorem V_multi {idx : Nat} {x y : Int} (hd : decode (q_cc M) pc = .ok (.multianewarray idx 2, 4)) (hcl : Cond.classLink (q_y M).cls idx "[[I" ∈ q_T) (hk : q_k (N : Int) = 23) (hn : q_n (N : Int) = x) (ht : ∀ k : Nat, q_t (N : Int) k = 2) (hrow : ∀ i : Nat, i < x.toNat → q_k ((N + 1 + i : Nat) : Int) = 20 ∧ q_n ((N + 1 + i : Nat) : Int) = y ∧ ∀ k : Nat, q_t ((N + 1 + i : Nat) : Int) k = 0) (hx : 0 ≤ x ∧ x ≤ 100) (hy : 0 ≤ y ∧ y ≤ 10000) (hf : ∀ j k : Int, (N : Int) ≤ j → f j k = 0 ∧ rf j k = -1) (hroom : cs + (1 + x.toNat) ≤ q_mc M ∧ ss + (x.toNat + x.toNat * y.toNat) ≤ q_ms M)
    (k : V D C M (pc + 4) L (vr D N :: st) (N + 1 + x.toNat, rfg rf N x.toNat, cs + 1 + x.toNat, ss + x.toNat + x.toNat * y.toNat) f) : V D C M pc L (vi y :: vi x :: st) (N, rf, cs, ss) f := by
  intro hC H ls locs hW hL hlo
  have hC' := hC
  obtain ⟨hxx, hb, hml, hown, hts, hlk, hre, hnm, hK, hfr, hlo2, hce, hsl⟩ := hC
  have hsz : H.size = D.1 + N := hW.1
  have h20 : q_cl.length ≤ 20 := by decide +kernel
  have htx : (Int32.ofInt x).toInt = x := q_ti (by omega)
  have hty : (Int32.ofInt y).toInt = y := q_ti (by omega)
  have hNx : (Int32.ofInt x).toNatClampNeg = x.toNat := by show (Int32.ofInt x).toInt.toNat = _; rw [htx]
  have hNy : (Int32.ofInt y).toNatClampNeg = y.toNat := by show (Int32.ofInt y).toInt.toNat = _; rw [hty]
  have hgx : ¬ Int32.ofInt x < 0 := by
    rw [Int32.lt_iff_toInt_lt, htx]
    show ¬ x < (0 : Int32).toInt
    rw [show (0 : Int32).toInt = 0 from rfl]; omega
  have hgy : ¬ Int32.ofInt y < 0 := by
    rw [Int32.lt_iff_toInt_lt, hty]
    show ¬ y < (0 : Int32).toInt
    rw [show (0 : Int32).toInt = 0 from rfl]; omega
  obtain ⟨hAr, hNm⟩ := hK.2.1 20 .int rfl
  obtain ⟨-, kR, hkR, cI, hR⟩ := hAr 0 (fun _ => .null)
  refine q_multi hxx hb hown (hts _ hcl) (over_moved (Vm.Alike.refl _) hK.2.2.2.1) hNm hkR hR rfl hd rfl hgx hNx hgy hNy (by omega) (by omega) (Nat.le_trans hroom.1 hce) (Nat.le_trans hroom.2 hsl) hsz fun H1 cA l2 hl2 hfA z1 e1 r1 o1 => ?_
  have hcA : cA = D.2.2.2.2.1 23 := by
    have := (hK.2.1 23 (.array .int) rfl).2
    rw [hfA] at this; cases this; rfl
  have hoff : ∀ j : Nat, j ≠ N → q_sv D (N + 1 + x.toNat, rfg rf N x.toNat, cs + 1 + x.toNat, ss + x.toNat + x.toNat * y.toNat) f j = q_sv D (N, rf, cs, ss) f j := by
    intro j hj
    funext i
    unfold q_sv
    show q_val D _ _ (rfg rf N x.toNat j i) = q_val D _ _ (rf j i)
    unfold rfg
    rw [if_neg (fun h => hj (by omega))]
  refine k hC' H1 ls (locs ++ l2) ⟨?_, fun q hq => ?_, fun j hj => ?_⟩ hL (fun q hq => ?_)
  · rw [z1]; show _ = D.1 + (N + 1 + x.toNat); omega
  · rw [o1 q (by omega)]; exact hW.2.1 q hq
  · have hj : j < N + 1 + x.toNat := hj
    by_cases c1 : j < N
    · obtain ⟨g1, g2⟩ := hW.2.2 j c1
      have hh : H1[D.1 + j]? = H[D.1 + j]? := o1 _ (by omega)
      refine ⟨fun c hc => ?_, fun hk => ?_⟩
      · rw [hoff j (by omega)]; exact (g1 c hc).kept hh
      · rw [hoff j (by omega), hh]; exact g2 hk
    · by_cases c2 : j = N
      · subst c2
        refine ⟨fun c hc => ?_, fun _ => ?_⟩
        · exfalso
          rw [hk] at hc
          have := (List.getElem?_eq_some_iff.mp hc).1
          omega
        · rw [e1, hk, hn, hcA]
          unfold gCell
          refine congrArg some (arrV_cg (fun i hi => ?_))
          rw [if_pos hi]
          unfold q_sv
          rw [ht]
          show _ = if rfg rf j x.toNat j i < 0 then Value.null else vr D (rfg rf j x.toNat j i)
          have hr : rfg rf j x.toNat j i = (j : Int) + 1 + i := by unfold rfg; rw [if_pos ⟨rfl, by omega, by omega⟩]
          rw [hr, if_neg (by omega)]
          unfold vr
          rw [show D.1 + ((j : Int) + 1 + i).toNat = D.1 + j + 1 + i by omega]
      · have hi : j - (N + 1) < x.toNat := by omega
        have hji : N + 1 + (j - (N + 1)) = j := by omega
        obtain ⟨a1, a2, a3⟩ := hrow (j - (N + 1)) hi
        have e2 := r1 (j - (N + 1)) hi
        rw [hji] at a1 a2 a3
        refine ⟨fun c hc => ?_, fun _ => ?_⟩
        · exfalso
          rw [a1] at hc
          have := (List.getElem?_eq_some_iff.mp hc).1
          omega
        · rw [show D.1 + j = D.1 + N + 1 + (j - (N + 1)) by omega, e2, a1, a2]
          refine congrArg some (arrV_cg (fun i hi => ?_))
          unfold q_sv
          rw [a3, (hf j i (by omega)).1]
          rfl
  · rcases List.mem_append.mp hq with hq | hq
    · exact hlo q hq
    · rw [hl2 q hq]; omega
end MROW
