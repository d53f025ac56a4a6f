/-! what holds at the entry -/
theorem q_inst : ∀ (ci : Nat) (c : vw_C), q_cl[ci]? = some c → ∃ n, Cond.instantiable c.1 n ∈ q_T := by
  intro ci c h
  match ci, h with
  | 0, h => cases h; exact ⟨1, q_in 144 (by decide +kernel) rfl⟩
  | 1, h => cases h; exact ⟨6, q_in 154 (by decide +kernel) rfl⟩
  | 2, h => cases h; exact ⟨15, q_in 183 (by decide +kernel) rfl⟩
  | 3, h => cases h; exact ⟨3, q_in 70 (by decide +kernel) rfl⟩
  | 4, h => cases h; exact ⟨4, q_in 117 (by decide +kernel) rfl⟩
  | 5, h => cases h; exact ⟨8, q_in 76 (by decide +kernel) rfl⟩
  | 6, h => cases h; exact ⟨9, q_in 26 (by decide +kernel) rfl⟩
  | 7, h => cases h; exact ⟨10, q_in 18 (by decide +kernel) rfl⟩
  | 8, h => cases h; exact ⟨76, q_in 938 (by decide +kernel) rfl⟩
  | k + 9, h => simp [q_cl] at h
def q_gw : List Cond := flatC (Jvm.Cond.and given_1 narrow_1)
abbrev q_tS : Term := .string "HiredShades$Tape" 46
abbrev q_tV : Term := .field q_tS "java/lang/String" "value" "[B"
abbrev q_tM : Term := .static "HiredShades$Guild" "MOST" "[I"
theorem g_ex : Cond.exactly q_tS "java/lang/String" ∈ q_gw := by decide +kernel
theorem g_co : Cond.eq (.field q_tS "java/lang/String" "coder" "B") (.int 0) ∈ q_gw := by decide +kernel
theorem g_ar : Cond.arrayOf q_tV .byte ∈ q_gw := by decide +kernel
theorem g_le : Cond.eq (.length q_tV) (.int 125) ∈ q_gw := by decide +kernel
theorem g_el : ∀ j : Nat, j < 125 → Cond.eq (.elem q_tV (.int (Int32.ofNat j))) (.int (q_wb.getD j 0)) ∈ q_gw := by decide +kernel
theorem g_el2 {w : List Int32} {j : Nat} {P : Int32 → Prop} (h : P (w.getD j 0)) : P ((([w] : List (List Int32)).getD 0 []).getD j 0) := h
theorem g_cs : Cond.eq (.static "java/lang/String" "COMPACT_STRINGS" "Z") (.int 1) ∈ q_gw := by decide +kernel
theorem g_sf : Cond.isRef (.static "jdk/internal/util/Preconditions" "SIOOBE_FORMATTER" "Ljava/util/function/BiFunction;") ∈ q_gw := by decide +kernel
theorem g_ma : Cond.arrayOf q_tM .int ∈ q_gw := by decide +kernel
theorem g_ml : Cond.eq (.length q_tM) (.int 7) ∈ q_gw := by decide +kernel
theorem g_me : ∀ j : Nat, j < 7 → Cond.eq (.elem q_tM (.int (Int32.ofNat j))) (.int (q_most.getD j 0)) ∈ q_gw := by decide +kernel
theorem q_start {s : State} {b : Nat} (hts : ∀ w ∈ lw_tbl, w.before #[Value.ref b] s = true) (hgv : (Jvm.Cond.and given_1 narrow_1).before #[Value.ref b] s = true) : ∃ D : q_D, D.1 = s.heap.size ∧ D.2.1 = s.heap ∧ q_K D s := by
  have hT : ∀ w ∈ q_T, w.before #[Value.ref b] s = true := fun w hw => hts w (List.mem_filter.mp hw).1
  have ht1 : ∀ (i : Nat) (w : Cond), tables_1[i]? = some w → w.before #[Value.ref b] s = true := fun i w h => hts w (List.mem_append_right _ (List.mem_of_getElem? h))
  have hs : ∀ w ∈ q_gw, w.before #[Value.ref b] s = true := flat_of_before _ hgv
  have hcl : ∀ c : Nat, ∃ x : ClassId × (Nat → Nat), ∀ q, q_cl[c]? = some q → u_Kn s q.1 q.2.1 q.2.2 x.1 x.2 := by
    intro c
    by_cases h : ∃ q, q_cl[c]? = some q
    · obtain ⟨q, hq⟩ := h
      obtain ⟨hin, -, -⟩ := q_clsok c q hq
      obtain ⟨n, hi⟩ := q_inst c q hq
      obtain ⟨cC, iS, hk⟩ := u_known hT hin (hT _ hi)
      exact ⟨(cC, iS), fun q2 h2 => by rw [hq] at h2; cases h2; exact hk⟩
    · exact ⟨(0, fun _ => 0), fun q hq => absurd ⟨q, hq⟩ h⟩
  have hover : (Cond.arrayOver (.array .int)).before #[Value.ref b] s = true := ht1 123 _ (by decide +kernel)
  have har1 : ∀ ty : FieldType, (Cond.arrayClass ty).before #[Value.ref b] s = true → ∃ cA : ClassId, ArrOfT s cA ty ∧ s.vm.findClass ("[" ++ ty.toString) = some cA := by
    intro ty h
    obtain ⟨cB, kB, comp, hcB, hkB, hkind⟩ := Cond.arrayClass_spec h
    exact ⟨cB, fun n z => ⟨fun k h => (by cases h), kB, hkB, comp, hkind⟩, hcB⟩
  have har : ∀ a : Nat, ∃ cA : ClassId, ∀ ty, q_aty a = some ty → ArrOfT s cA ty ∧ s.vm.findClass ("[" ++ ty.toString) = some cA := by
    intro a
    match a with
    | 20 => obtain ⟨cA, h⟩ := har1 .int (ht1 68 _ (by decide +kernel)); exact ⟨cA, fun ty e => by cases e; exact h⟩
    | 21 => obtain ⟨cA, h⟩ := har1 .long (ht1 1173 _ (by decide +kernel)); exact ⟨cA, fun ty e => by cases e; exact h⟩
    | 22 => obtain ⟨cA, h⟩ := har1 .char (ht1 1172 _ (by decide +kernel)); exact ⟨cA, fun ty e => by cases e; exact h⟩
    | 23 =>
      obtain ⟨comp, c, k, -, -, hk, hkind, hn⟩ := arrayOverA_spec hover
      exact ⟨c, fun ty e => by cases e; exact ⟨fun n z => ⟨fun k h => (by cases h), k, hk, comp, hkind⟩, hn⟩⟩
    | 0 | 1 | 2 | 3 | 4 | 5 | 6 | 7 | 8 | 9 | 10 | 11 | 12 | 13 | 14 | 15 | 16 | 17 | 18 | 19 => exact ⟨0, fun ty e => by first | (cases e; done) | simp [q_aty] at e⟩
    | n + 24 => exact ⟨0, fun ty e => by first | (simp [q_aty] at e) | (cases e; done)⟩
  have hA : ∀ a : Nat, a < s.heap.size → ¬ (fun q : Nat => s.heap.size ≤ q) a := fun a h h2 => absurd h2 (by show ¬ s.heap.size ≤ a; omega)
  obtain ⟨adK, adV, hS, hev⟩ := vk_Sof (args := #[Value.ref b]) (s := s) (N := 1) (tm := fun _ => q_tS) (len := [125]) (byt := [q_wb]) (A := fun q : Nat => s.heap.size ≤ q)
    (fun i hi => by obtain rfl : i = 0 := by omega
                    decide)
    (fun i hi => hs _ g_ex) (fun i hi => hs _ g_co) (fun i hi => hs _ g_ar)
    (fun i hi => by obtain rfl : i = 0 := by omega
                    exact hs _ g_le)
    (fun i hi j hj => by obtain rfl : i = 0 := by omega
                         exact g_el2 (w := q_wb) (P := fun z => (Cond.eq (.elem q_tV (.int (Int32.ofNat j))) (.int z)).before #[Value.ref b] s = true) (hs _ (g_el j (show j < 125 from hj))))
    (fun i j hi hj hne => absurd (show i = j by omega) hne) hA
  obtain ⟨tM, hM1, hM2⟩ := va_Tof (args := #[Value.ref b]) (s := s) (tm := q_tM) (ty := .int) (N := 7) (f := fun j => .int (q_most.getD j 0)) (A := fun q : Nat => s.heap.size ≤ q) (by decide) (hs _ g_ma) (va_eqt (hs _ g_ml)) (fun j hj => va_eqt (hs _ (g_me j hj))) hA
  have hcl2 := fun c => (hcl c).choose_spec
  have har2 := fun a => (har a).choose_spec
  refine ⟨(s.heap.size, s.heap, fun c => (hcl c).choose.1, fun c => (hcl c).choose.2, fun a => (har a).choose, fun i => if i = 0 then adK 0 else if i = 1 then adV 0 else tM), rfl, rfl, fun c q hq => hcl2 c q hq, fun a ty h => har2 a ty h, fun w hw => ?_, over_moved (Vm.Alike.refl _) hover, ?_, ⟨fun i hi => ?_, fun i j hi hj _ => by omega⟩, ?_, ?_, ?_, ?_⟩
  · have h := hts w (List.mem_append_right _ (List.mem_filter.mp hw).1)
    obtain ⟨a, i, x, b', rfl⟩ := q_nest_of hw
    exact va_Nw.of rfl h
  · exact vk_R.of (A := #[Value.ref b]) (ht1 350 _ (by decide +kernel)) (hev 0 (by decide))
  · obtain rfl : i = 0 := by omega
    exact hS.1 0 (by decide)
  · exact va_Zof (ht1 360 _ (by decide +kernel)) (ht1 10 _ (by decide +kernel)) (va_eqi (hs _ g_cs)) hA
  · exact va_Zref (ht1 443 _ (by decide +kernel)) (ht1 8 _ (by decide +kernel)) hM1 hA
  · exact hM2
  · exact va_Zqof (ht1 376 _ (by decide +kernel)) (ht1 12 _ (by decide +kernel)) (hs _ g_sf) hA
