/-! BASE: a store of numbers over a fixed layout of cells; V, the walk over it; Ok, a method's contract -/
def vi (z : Int) : Value := .int (Int32.ofInt z)
def vl (z : Int) : Value := .long (Int64.ofInt z)
/-- a local that nobody reads -/
def vu : Value := .float 0
abbrev q_F : Type := Int → Int → Int
/-- how many cells, the references, cells and slots made in this call -/
abbrev q_Z : Type := Nat × (Int → Int → Int) × Nat × Nat
/-- base address, the heap below it, class ids, field slots, array classes, addresses of constants -/
abbrev q_D : Type := Nat × Heap × (Nat → ClassId) × (Nat → Nat → Nat) × (Nat → ClassId) × (Nat → Nat)
def vr (D : q_D) (q : Int) : Value := .ref (D.1 + q.toNat)
def q_val (D : q_D) (t : Nat) (z r : Int) : Value := match t with
  | 0 => vi z
  | 1 => vl z
  | _ => if r < 0 then .null else vr D r
def q_A (D : q_D) : Nat → Prop := fun q => D.1 ≤ q
def q_sv (D : q_D) (z : q_Z) (f : q_F) (j k : Nat) : Value := q_val D (q_t j k) (f j k) (z.2.1 j k)
def q_at (D : q_D) (z : q_Z) (f : q_F) (H : Heap) (j : Nat) : Prop :=
  (∀ c, q_cl[q_k j]? = some c → t_OB (D.1 + j) (D.2.2.1 (q_k j)) c.2.2 (D.2.2.2.1 (q_k j)) H (q_sv D z f j)) ∧
  (20 ≤ q_k j → H[D.1 + j]? = some (arrV (D.2.2.2.2.1 (q_k j)) (q_n j).toNat (q_sv D z f j)))
def q_W (D : q_D) (z : q_Z) (f : q_F) (H : Heap) : Prop := H.size = D.1 + z.1 ∧ (∀ q, q < D.1 → H[q]? = D.2.1[q]?) ∧ ∀ j : Nat, j < z.1 → q_at D z f H j
def q_aty : Nat → Option FieldType
  | 20 => some .int
  | 21 => some .long
  | 22 => some .char
  | 23 => some (.array .int)
  | _ => none
def q_most : List Int32 := [6, 8, 5, 8, 24, 6, 20]
def q_words : String := "traits person shade fee fakes place road seen at hour light rain dry price when tithe or and not all wet unlike pass min max "
def q_wb : List Int32 := q_words.toList.map (fun c => Int32.ofNat c.toNat)
/-- what the constants are -/
def q_X (D : q_D) (U : State) : Prop :=
  vk_R "HiredShades$Tape" 46 q_words (D.2.2.2.2.2 0) U ∧
  vk_S 1 [125] [q_wb] (fun _ => D.2.2.2.2.2 0) (fun _ => D.2.2.2.2.2 1) (q_A D) U D.2.1 ∧
  va_Z "java/lang/String" "COMPACT_STRINGS" "Z" (.int 1) (q_A D) U D.2.1 ∧
  va_Z "HiredShades$Guild" "MOST" "[I" (.ref (D.2.2.2.2.2 2)) (q_A D) U D.2.1 ∧
  va_T .int (D.2.2.2.2.2 2) 7 (fun j => .int (q_most.getD j 0)) (q_A D) U D.2.1 ∧
  va_Zq "jdk/internal/util/Preconditions" "SIOOBE_FORMATTER" "Ljava/util/function/BiFunction;" (q_A D) U D.2.1
def q_K (D : q_D) (U : State) : Prop :=
  (∀ (c : Nat) (q : vw_C), q_cl[c]? = some q → u_Kn U q.1 q.2.1 q.2.2 (D.2.2.1 c) (D.2.2.2.1 c)) ∧
  (∀ (a : Nat) (ty : FieldType), q_aty a = some ty → ArrOfT U (D.2.2.2.2.1 a) ty ∧ U.vm.findClass ("[" ++ ty.toString) = some (D.2.2.2.2.1 a)) ∧
  (∀ w ∈ q_nest, va_Nw w U) ∧ (Cond.arrayOver (.array .int)).before #[] U = true ∧ q_X D U
theorem q_wl : q_wb.length = 125 := by decide +kernel
theorem q_nest_of {w : Cond} (h : w ∈ q_nest) : ∃ a i x b, w = .methodLinkNest a i x b := by
  have h2 := (List.mem_filter.mp h).2
  cases w with
  | methodLinkNest a i x b => exact ⟨a, i, x, b, rfl⟩
  | _ => simp at h2
theorem q_X.warm {D : q_D} {s U : State} (hW : s.WarmedH U.vm) (h : q_X D s) : q_X D U :=
  ⟨vk_R.warm hW h.1, vk_S.moved hW.alike h.2.1, va_Z.moved hW.alike h.2.2.1, va_Z.moved hW.alike h.2.2.2.1, va_T.moved hW.alike h.2.2.2.2.1, va_Zq.moved hW.alike h.2.2.2.2.2⟩
theorem q_K.warm {D : q_D} {s U : State} (hW : s.WarmedH U.vm) (h : q_K D s) : q_K D U := by
  obtain ⟨h1, h2, h3, h4, h5⟩ := h
  refine ⟨fun c q hq => u_Kn_moved hW.alike (h1 c q hq), fun a ty ha => ⟨arrOfT_moved hW.alike (h2 a ty ha).1, ?_⟩, fun w hw => ?_, over_moved hW.alike h4, h5.warm hW⟩
  · rw [hW.alike.findClass]; exact (h2 a ty ha).2
  · obtain ⟨a, i, x, b, rfl⟩ := q_nest_of hw
    exact va_Nw.warmM hW (h3 _ hw)
theorem q_X.same {D : q_D} {u U : State} (hv : u.vm = U.vm) (h : q_X D u) : q_X D U := by
  have ha : u.vm.Alike U.vm := by rw [hv]; exact Vm.Alike.refl _
  exact ⟨vk_R.same hv.symm h.1, vk_S.moved ha h.2.1, va_Z.moved ha h.2.2.1, va_Z.moved ha h.2.2.2.1, va_T.moved ha h.2.2.2.2.1, va_Zq.moved ha h.2.2.2.2.2⟩
theorem q_K.same {D : q_D} {u U : State} (hv : u.vm = U.vm) (h : q_K D u) : q_K D U := by
  have ha : u.vm.Alike U.vm := by rw [hv]; exact Vm.Alike.refl _
  obtain ⟨h1, h2, h3, h4, h5⟩ := h
  refine ⟨fun c q hq => u_Kn_moved ha (h1 c q hq), fun a ty hq => ⟨arrOfT_moved ha (h2 a ty hq).1, ?_⟩, fun w hw => ?_, over_moved ha h4, h5.same hv⟩
  · rw [← hv]; exact (h2 a ty hq).2
  · obtain ⟨a, i, x, b, rfl⟩ := q_nest_of hw
    exact va_Nw.same rfl hv (h3 _ hw)
/-- program, launch, environment, room, state at the entry, method, arguments, frames below, method's record, code, what is to come -/
abbrev q_C := Program × Launch × Env × Room × State × MethodId × Array Value × List Frame × Method × Code × (State → Prop)
abbrev c_p (C : q_C) := C.1
abbrev c_l (C : q_C) := C.2.1
abbrev c_e (C : q_C) := C.2.2.1
abbrev c_R (C : q_C) := C.2.2.2.1
abbrev c_s (C : q_C) := C.2.2.2.2.1
abbrev c_m (C : q_C) := C.2.2.2.2.2.1
abbrev c_a (C : q_C) := C.2.2.2.2.2.2.1
abbrev c_b (C : q_C) := C.2.2.2.2.2.2.2.1
abbrev c_t (C : q_C) := C.2.2.2.2.2.2.2.2.1
abbrev c_c (C : q_C) := C.2.2.2.2.2.2.2.2.2.1
abbrev c_Q (C : q_C) := C.2.2.2.2.2.2.2.2.2.2
def q_ok (D : q_D) (C : q_C) (M : q_M) : Prop :=
  (c_p C).tables.exec = Jvm.exec ∧ (c_c C).code = q_cc M ∧ (c_c C).maxLocals = q_ml M ∧ (c_s C).vm.findClass (q_y M).cls = some (c_m C).cls ∧ (∀ w ∈ q_T, w.before (c_a C) (c_s C) = true) ∧
  (c_t C).locks = false ∧ (c_t C).sig.returnType = q_re M ∧ (c_t C).name = (q_y M).name ∧ q_K D (c_s C) ∧ q_dp M ≤ (c_R C).frames ∧ 41 * q_dp M ≤ (c_R C).locals ∧ q_mc M ≤ (c_R C).cells ∧ q_ms M ≤ (c_R C).slots
def q_lv (L : List Value) : List (Nat × Value) := (L.zipIdx.map (fun q => (q.2, q.1))).filter (fun q => decide (q.2 ≠ vu))
theorem q_lv_mem {L : List Value} {k : Nat} {v : Value} : (k, v) ∈ q_lv L ↔ L[k]? = some v ∧ v ≠ vu := by
  simp only [q_lv, List.mem_filter, List.mem_map, decide_eq_true_eq, Prod.mk.injEq, Prod.exists, List.mem_zipIdx_iff_getElem?]
  constructor
  · rintro ⟨⟨a, b, h1, rfl, rfl⟩, h2⟩
    exact ⟨h1, h2⟩
  · rintro ⟨h1, h2⟩
    exact ⟨⟨v, k, h1, rfl, rfl⟩, h2⟩
def q_L (L : List Value) (ls : Array Slot) (n : Nat) : Prop := L.length = n ∧ lv_has ls n (q_lv L)
theorem q_L.at {L : List Value} {ls : Array Slot} {n k : Nat} {v : Value} (h : q_L L ls n) (hk : L[k]? = some v) (hv : v ≠ vu) : ls[k]? = some (.val v) := h.2.2.2 (k, v) (q_lv_mem.mpr ⟨hk, hv⟩)
/-- a walk from pc on, with locals L, stack st, shape z, store f -/
def V (D : q_D) (C : q_C) (M : q_M) (pc : Nat) (L : List Value) (st : List Value) (z : q_Z) (f : q_F) : Prop :=
  q_ok D C M → ∀ (H : Heap) (ls : Array Slot) (locs : List Loc), q_W D z f H → q_L L ls (q_ml M) → (∀ q ∈ locs, D.1 ≤ q.base) →
    W (c_p C) (c_l C) (c_e C) (c_R C) (c_s C) (c_m C) (c_a C) (c_b C) (c_t C) (c_c C) H locs z.2.2.1 z.2.2.2 (c_Q C) (F0 (c_m C) pc ls st)
def q_rm (M : q_M) : Room := { frames := q_dp M, cells := q_mc M, slots := q_ms M, locals := 41 * q_dp M }
def q_ws (M : q_M) : List Cond := Cond.code (q_y M) (q_cc M) (q_ml M) (q_re M) :: q_T
def q_Pc (D : q_D) (as : List Value) (z : q_Z) (f : q_F) : Array Value → State → Prop := fun a U => a = as.toArray ∧ q_W D z f U.heap ∧ q_K D U
/-- a returned value as one of ours: nothing is vu -/
def q_o (v : Value) : Option Value := if v = vu then none else some v
def q_Qc (D : q_D) (Q : Value → q_Z → q_F → Prop) : Array Value → State → Outcome → State → Prop := fun _ _ o t => ∃ v z f, o = .returned (q_o v) ∧ q_W D z f t.heap ∧ Q v z f
/-- a method's contract: called with these, it returns v with Q v z' f' -/
def Ok (D : q_D) (M : q_M) (as : List Value) (z : q_Z) (f : q_F) (Q : Value → q_Z → q_F → Prop) : Prop :=
  ∀ l, Met l (q_y M) (q_ws M) (q_rm M) (q_Pc D as z f) (q_Qc D Q) (q_mc M) (q_ms M) (fun a => D.1 ≤ a)
/-- what may be returned -/
def q_ret (D : q_D) (C : q_C) (M : q_M) (v : Value) (z : q_Z) (f : q_F) : Prop :=
  q_ok D C M → ∀ (H : Heap) (ls : Array Slot) (locs : List Loc) (pc : Nat), q_W D z f H → (∀ q ∈ locs, D.1 ≤ q.base) →
    (decode (q_cc M) pc = .ok ((match v with | .int _ => Instr.ireturn | .long _ => Instr.lreturn | .ref _ => Instr.areturn | .null => Instr.areturn | _ => Instr.return_), 1)) →
    W (c_p C) (c_l C) (c_e C) (c_R C) (c_s C) (c_m C) (c_a C) (c_b C) (c_t C) (c_c C) H locs z.2.2.1 z.2.2.2 (c_Q C) (F0 (c_m C) pc ls (q_o v).toList)
