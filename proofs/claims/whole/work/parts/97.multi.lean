/-! an array of rows is made: the machine's own step -/
/-- the outer array behind k rows -/
def gCell (cA : ClassId) (N h k : Nat) : Cell := arrV cA N (fun i => if i < k then .ref (h + 1 + i) else .null)
/-- the state behind k rows -/
def gT (cA cR : ClassId) (N K h : Nat) (T : State) : Nat → State
  | 0 => T.pushCell (gCell cA N h 0)
  | k + 1 => ((gT cA cR N K h T k).pushCell (arrV cR K (fun _ => .int 0))).setCell h ((gCell cA N h k).setSlot k (.ref (h + 1 + k)))
section MULTI
variable {p : Program} {l : Launch} {e : Env} {R : Room} {s : State} {m : MethodId} {args : Array Value} {below : List Frame} {meth : Method} {c : Code} {T : State} {locs : List Loc} {cells slots : Nat} {cA cR : ClassId} {N K h : Nat}
theorem gT_top (f : JFrame) : ∀ k, gT cA cR N K h (T.setTop f) k = (gT cA cR N K h T k).setTop f := by
  intro k
  induction k with
  | zero => rfl
  | succ k ih =>
    show ((gT cA cR N K h (T.setTop f) k).pushCell _).setCell h _ = (((gT cA cR N K h T k).pushCell _).setCell h _).setTop f
    rw [ih]; rfl
theorem gCell_set (k : Nat) (hk : k < N) : (gCell cA N h k).setSlot k (.ref (h + 1 + k)) = gCell cA N h (k + 1) := by
  unfold gCell
  rw [arrV_store]
  refine congrArg (arrV cA N) (funext fun i => ?_)
  unfold updV
  by_cases e : i = k
  · rw [if_pos e, if_pos (by omega), e]
  · rw [if_neg e]
    dsimp only
    by_cases e2 : i < k
    · rw [if_pos e2, if_pos (by omega)]
    · rw [if_neg e2, if_neg (by omega)]
/-- what stands behind k rows -/
theorem gT_at (hh : T.heap.size = h) : ∀ k, k ≤ N → (gT cA cR N K h T k).heap.size = h + 1 + k ∧ (gT cA cR N K h T k).heap[h]? = some (gCell cA N h k) ∧ (∀ i, i < k → (gT cA cR N K h T k).heap[h + 1 + i]? = some (arrV cR K (fun _ => .int 0))) ∧ (∀ q, q < h → (gT cA cR N K h T k).heap[q]? = T.heap[q]?) ∧ (gT cA cR N K h T k).vm = T.vm ∧ (gT cA cR N K h T k).slotsUsed = T.slotsUsed + N + k * K := by
  intro k
  induction k with
  | zero =>
    intro _
    refine ⟨?_, ?_, fun i hi => absurd hi (Nat.not_lt_zero _), fun q hq => ?_, rfl, ?_⟩
    · show (T.heap.push _).size = _; rw [Array.size_push]; omega
    · show (T.heap.push _)[h]? = _; rw [Array.getElem?_push, if_pos hh.symm]
    · show (T.heap.push _)[q]? = _; rw [Array.getElem?_push, if_neg (by omega)]
    · show T.slotsUsed + (gCell cA N h 0).slots.size = _
      unfold gCell; rw [arrV_size]; omega
  | succ k ih =>
    intro hk
    obtain ⟨i1, i2, i3, i4, i5, i6⟩ := ih (by omega)
    have e0 : (gT cA cR N K h T (k + 1)).heap = ((gT cA cR N K h T k).heap.push (arrV cR K (fun _ => .int 0))).setIfInBounds h ((gCell cA N h k).setSlot k (.ref (h + 1 + k))) := rfl
    rw [gCell_set k (by omega)] at e0
    refine ⟨?_, ?_, fun i hi => ?_, fun q hq => ?_, ?_, ?_⟩
    · rw [e0, Array.size_setIfInBounds, Array.size_push, i1]; omega
    · rw [e0, Array.getElem?_setIfInBounds, if_pos rfl, if_pos (by rw [Array.size_push, i1]; omega)]
    · rw [e0, Array.getElem?_setIfInBounds, if_neg (by omega), Array.getElem?_push]
      by_cases ei : i = k
      · rw [if_pos (by omega)]
      · rw [if_neg (by omega)]; exact i3 i (by omega)
    · rw [e0, Array.getElem?_setIfInBounds, if_neg (by omega), Array.getElem?_push, if_neg (by omega)]; exact i4 q hq
    · exact i5
    · show (gT cA cR N K h T k).slotsUsed + (arrV cR K (fun _ => .int 0)).slots.size = _
      rw [arrV_size, i6, Nat.succ_mul]; omega
theorem gT_stand (X : Stand p l e R s m args below meth c T locs cells slots) (hh : T.heap.size = h) : ∀ k, k ≤ N → ∃ l2 : List Loc, (∀ q ∈ l2, q.base = h) ∧ Stand p l e R s m args below meth c (gT cA cR N K h T k) (locs ++ l2) (cells + 1 + k) (slots + N + k * K) := by
  intro k
  induction k with
  | zero =>
    intro _
    refine ⟨[], fun q hq => (by cases hq), ?_⟩
    have := X.pushed (gCell cA N h 0)
    rw [List.append_nil, Nat.zero_mul]
    have e : (gCell cA N h 0).slots.size = N := by unfold gCell; rw [arrV_size]
    rw [e] at this; exact this
  | succ k ih =>
    intro hk
    obtain ⟨l2, h1, X1⟩ := ih (by omega)
    have a := gT_at (cA := cA) (cR := cR) (N := N) (K := K) hh k (by omega)
    have X2 := X1.pushed (arrV cR K (fun _ => .int 0))
    have hc : ((gT cA cR N K h T k).pushCell (arrV cR K (fun _ => .int 0))).heap[h]? = some (gCell cA N h k) := by
      show ((gT cA cR N K h T k).heap.push _)[h]? = _
      rw [Array.getElem?_push, if_neg (by rw [a.1]; omega)]; exact a.2.1
    have X3 := X2.stored hc k (.ref (h + 1 + k))
    refine ⟨l2 ++ [⟨h, k⟩], fun q hq => ?_, ?_⟩
    · rcases List.mem_append.mp hq with hq | hq
      · exact h1 q hq
      · rw [List.mem_singleton.mp hq]
    · rw [arrV_size] at X3
      rw [← List.append_assoc, Nat.succ_mul, show cells + 1 + (k + 1) = cells + 1 + k + 1 by omega, show slots + N + (k * K + K) = slots + N + k * K + K by omega]
      exact X3
theorem q_fits {T : State} {cX : ClassId} {k : Class} {comp : ClassId} {ty : FieldType} {i : Nat} {v : Value} (hk : T.vm.classes[cX]? = some k) (hkind : k.kind = .array comp ty) (hf : fits ty v = true) : T.fitsSlot cX .none i v = true := by
  simp [State.fitsSlot, State.slotType?, hk, hkind, hf]
theorem q_make1 {E : CtlPost} {d : Bool} {acts : List Action} {T : State} {Q : Addr → Pre} {kR : Class} {cI : ClassId} {k : Int32} (hkR : T.vm.classes[cR]? = some kR) (hR : kR.kind = .array cI .int) (hk : ¬ k < 0) (hK : k.toNatClampNeg = K) (hl : ¬ K > e.platform.arrayLengthLimit) (hb : ¬ K * 4 > e.platform.maxHeapBytes) (hc : T.heap.size < e.platform.maxCells) (hs : T.slotsUsed + K ≤ e.platform.maxSlots) (hq : ∀ acts', Q T.heap.size d acts' (T.pushCell (arrV cR K (fun _ => .int 0)))) : Sem.wp (Jvm.Op.multianewarray.make cR [k]) Q E e d acts T := by
  subst hK
  sorry
end MULTI
