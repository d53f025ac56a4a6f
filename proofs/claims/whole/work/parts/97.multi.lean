/-! an array of rows is made: the machine's own step -/
/-- the outer array behind k rows -/
def gCell (cA : ClassId) (N h k : Nat) : Cell := arrV cA N (fun i => if i < k then .ref (h + 1 + i) else .null)
/-- the state behind k rows -/
def gT (cA cR : ClassId) (N K h : Nat) (T : State) : Nat → State
  | 0 => T.pushCell (gCell cA N h 0)
  | k + 1 => ((gT cA cR N K h T k).pushCell (arrV cR K (fun _ => .int 0))).setCell h ((gCell cA N h k).setSlot k (.ref (h + 1 + k)))
section MULTI
variable {p : Program} {l : Launch} {e : Env} {R : Room} {s : State} {m : MethodId} {args : Array Value} {below : List Frame} {meth : Method} {c : Code} {T : State} {locs : List Loc} {cells slots : Nat} {cA cR : ClassId} {N K h : Nat}
theorem gT_top (f : JFrame) : ∀ k, gT cA cR N K h (T.setTop f) k = (gT cA cR N K h T k).setTop f := by
  intro k
  induction k with
  | zero => rfl
  | succ k ih =>
    show ((gT cA cR N K h (T.setTop f) k).pushCell _).setCell h _ = (((gT cA cR N K h T k).pushCell _).setCell h _).setTop f
    rw [ih]; rfl
theorem gCell_set (k : Nat) (hk : k < N) : (gCell cA N h k).setSlot k (.ref (h + 1 + k)) = gCell cA N h (k + 1) := by
  unfold gCell
  rw [arrV_store]
  refine congrArg (arrV cA N) (funext fun i => ?_)
  unfold updV
  by_cases e : i = k
  · rw [if_pos e, if_pos (by omega), e]
  · rw [if_neg e]
    dsimp only
    by_cases e2 : i < k
    · rw [if_pos e2, if_pos (by omega)]
    · rw [if_neg e2, if_neg (by omega)]
/-- what stands behind k rows -/
theorem gT_at (hh : T.heap.size = h) : ∀ k, k ≤ N → (gT cA cR N K h T k).heap.size = h + 1 + k ∧ (gT cA cR N K h T k).heap[h]? = some (gCell cA N h k) ∧ (∀ i, i < k → (gT cA cR N K h T k).heap[h + 1 + i]? = some (arrV cR K (fun _ => .int 0))) ∧ (∀ q, q < h → (gT cA cR N K h T k).heap[q]? = T.heap[q]?) ∧ (gT cA cR N K h T k).vm = T.vm ∧ (gT cA cR N K h T k).slotsUsed = T.slotsUsed + N + k * K := by
  intro k
  induction k with
  | zero =>
    intro _
    refine ⟨?_, ?_, fun i hi => absurd hi (Nat.not_lt_zero _), fun q hq => ?_, rfl, ?_⟩
    · show (T.heap.push _).size = _; rw [Array.size_push]; omega
    · show (T.heap.push _)[h]? = _; rw [Array.getElem?_push, if_pos hh.symm]
    · show (T.heap.push _)[q]? = _; rw [Array.getElem?_push, if_neg (by omega)]
    · show T.slotsUsed + (gCell cA N h 0).slots.size = _
      unfold gCell; rw [arrV_size]; omega
  | succ k ih =>
    intro hk
    obtain ⟨i1, i2, i3, i4, i5, i6⟩ := ih (by omega)
    have e0 : (gT cA cR N K h T (k + 1)).heap = ((gT cA cR N K h T k).heap.push (arrV cR K (fun _ => .int 0))).setIfInBounds h ((gCell cA N h k).setSlot k (.ref (h + 1 + k))) := rfl
    rw [gCell_set k (by omega)] at e0
    refine ⟨?_, ?_, fun i hi => ?_, fun q hq => ?_, ?_, ?_⟩
    · rw [e0, Array.size_setIfInBounds, Array.size_push, i1]; omega
    · rw [e0, Array.getElem?_setIfInBounds, if_pos rfl, if_pos (by rw [Array.size_push, i1]; omega)]
    · rw [e0, Array.getElem?_setIfInBounds, if_neg (by omega), Array.getElem?_push]
      by_cases ei : i = k
      · rw [if_pos (by omega)]
      · rw [if_neg (by omega)]; exact i3 i (by omega)
    · rw [e0, Array.getElem?_setIfInBounds, if_neg (by omega), Array.getElem?_push, if_neg (by omega)]; exact i4 q hq
    · exact i5
    · show (gT cA cR N K h T k).slotsUsed + (arrV cR K (fun _ => .int 0)).slots.size = _
      rw [arrV_size, i6, Nat.succ_mul]; omega
theorem gT_stand (X : Stand p l e R s m args below meth c T locs cells slots) (hh : T.heap.size = h) : ∀ k, k ≤ N → ∃ l2 : List Loc, (∀ q ∈ l2, q.base = h) ∧ Stand p l e R s m args below meth c (gT cA cR N K h T k) (locs ++ l2) (cells + 1 + k) (slots + N + k * K) := by
  intro k
  induction k with
  | zero =>
    intro _
    refine ⟨[], fun q hq => (by cases hq), ?_⟩
    have := X.pushed (gCell cA N h 0)
    rw [List.append_nil, Nat.zero_mul]
    have e : (gCell cA N h 0).slots.size = N := by unfold gCell; rw [arrV_size]
    rw [e] at this; exact this
  | succ k ih =>
    intro hk
    obtain ⟨l2, h1, X1⟩ := ih (by omega)
    have a := gT_at (cA := cA) (cR := cR) (N := N) (K := K) hh k (by omega)
    have X2 := X1.pushed (arrV cR K (fun _ => .int 0))
    have hc : ((gT cA cR N K h T k).pushCell (arrV cR K (fun _ => .int 0))).heap[h]? = some (gCell cA N h k) := by
      show ((gT cA cR N K h T k).heap.push _)[h]? = _
      rw [Array.getElem?_push, if_neg (by rw [a.1]; omega)]; exact a.2.1
    have X3 := X2.stored hc k (.ref (h + 1 + k))
    refine ⟨l2 ++ [⟨h, k⟩], fun q hq => ?_, ?_⟩
    · rcases List.mem_append.mp hq with hq | hq
      · exact h1 q hq
      · rw [List.mem_singleton.mp hq]
    · rw [arrV_size] at X3
      rw [← List.append_assoc, Nat.succ_mul, show cells + 1 + (k + 1) = cells + 1 + k + 1 by omega, show slots + N + (k * K + K) = slots + N + k * K + K by omega]
      exact X3
theorem q_fits {T : State} {cX : ClassId} {k : Class} {comp : ClassId} {ty : FieldType} {i : Nat} {v : Value} (hk : T.vm.classes[cX]? = some k) (hkind : k.kind = .array comp ty) (hf : fits ty v = true) : T.fitsSlot cX .none i v = true := by
  simp [State.fitsSlot, State.slotType?, hk, hkind, hf]
theorem q_make1 {E : CtlPost} {d : Bool} {acts : List Action} {T : State} {Q : Addr → Bool → List Action → State → Prop} {kR : Class} {cI : ClassId} {k : Int32} (hkR : T.vm.classes[cR]? = some kR) (hR : kR.kind = .array cI .int) (hk : ¬ k < 0) (hK : k.toNatClampNeg = K) (hl : ¬ K > e.platform.arrayLengthLimit) (hb : ¬ K * 4 > e.platform.maxHeapBytes) (hc : T.heap.size < e.platform.maxCells) (hs : T.slotsUsed + K ≤ e.platform.maxSlots) (hq : ∀ acts', Q T.heap.size d acts' (T.pushCell (arrV cR K (fun _ => .int 0)))) : Sem.wp (Jvm.Op.multianewarray.make cR [k]) Q E e d acts T := by
  subst hK
  rw [Jvm.Op.multianewarray.make]
  simp only [wp_bind', W.ite, hk, if_false, wp_pure', W.theClass, hkR, Option.some.injEq, exists_eq_left', hR]
  refine W.newArray_of hkR hR hl hb hc hs rfl (fun acts' => ?_)
  have := hq acts'
  rw [← arrV_new] at this
  exact this
theorem q_make2 {E : CtlPost} {d : Bool} {acts : List Action} {T : State} {Q : Addr → Bool → List Action → State → Prop} {kA kR : Class} {cI : ClassId} {n k : Int32} (hkA : T.vm.classes[cA]? = some kA) (hA : kA.kind = .array cR (.array .int)) (hkR : T.vm.classes[cR]? = some kR) (hR : kR.kind = .array cI .int) (hn : ¬ n < 0) (hN : n.toNatClampNeg = N) (hk : ¬ k < 0) (hK : k.toNatClampNeg = K) (hl : ¬ N > e.platform.arrayLengthLimit) (hb : ¬ N * 4 > e.platform.maxHeapBytes) (hl2 : ¬ K > e.platform.arrayLengthLimit) (hb2 : ¬ K * 4 > e.platform.maxHeapBytes) (hh : T.heap.size = h) (hc : h + 1 + N ≤ e.platform.maxCells) (hs : T.slotsUsed + N + N * K ≤ e.platform.maxSlots) (hq : ∀ d' acts', Q h d' acts' (gT cA cR N K h T N)) : Sem.wp (Jvm.Op.multianewarray.make cA [n, k]) Q E e d acts T := by
  subst hN
  rw [Jvm.Op.multianewarray.make]
  simp only [wp_bind', W.ite, hn, if_false, wp_pure', W.theClass, hkA, Option.some.injEq, exists_eq_left', hA]
  refine W.newArray_of hkA hA hl hb (by omega) (by omega) rfl (fun acts1 => ?_)
  have e0 : T.pushCell { cls := cA, slots := Array.replicate n.toNatClampNeg .null } = gT cA cR n.toNatClampNeg K h T 0 := by
    show _ = T.pushCell (gCell cA n.toNatClampNeg h 0)
    unfold gCell
    rw [arrV_new]
    refine congrArg (fun f => T.pushCell (arrV cA n.toNatClampNeg f)) (funext fun i => ?_)
    rw [if_neg (Nat.not_lt_zero _)]
  rw [e0]
  have hf : List.find? (fun x : Int32 => decide (x < 0)) [k] = none := by simp [hk]
  have loop : ∀ d1 acts2, Sem.wp (do
      for i in [0:n.toNatClampNeg] do
        writeLoc T.heap.size i (.ref (← Jvm.Op.multianewarray.make cR [k]))
      Pure.pure T.heap.size) Q E e d1 acts2 (gT cA cR n.toNatClampNeg K h T 0) := by
    intro d1 acts2
    simp only [wp_bind', Std.Legacy.Range.forIn_eq_forIn_range', Std.Legacy.Range.size, Nat.sub_zero, Nat.add_sub_cancel, Nat.div_one]
    refine wp_forIn_inv (fun rest s' => ∃ j, j ≤ n.toNatClampNeg ∧ rest = List.range' j (n.toNatClampNeg - j) ∧ s' = gT cA cR n.toNatClampNeg K h T j) _ _ ⟨0, Nat.zero_le _, rfl, rfl⟩ ?_ ?_
    · rintro x rest s' d' acts' Q' ⟨j, hj, hr, rfl⟩ hnext
      have hlt : j < n.toNatClampNeg := by
        by_cases hlt : j < n.toNatClampNeg
        · exact hlt
        · rw [show n.toNatClampNeg - j = 0 by omega] at hr; cases hr
      rw [show n.toNatClampNeg - j = (n.toNatClampNeg - (j + 1)) + 1 by omega, List.range'_succ] at hr
      cases hr
      obtain ⟨i1, i2, i3, i4, i5, i6⟩ := gT_at (cA := cA) (cR := cR) (N := n.toNatClampNeg) (K := K) hh x hj
      have hmul : (x + 1) * K ≤ n.toNatClampNeg * K := Nat.mul_le_mul_right _ (by omega)
      rw [Nat.succ_mul] at hmul
      simp only [wp_bind']
      refine q_make1 (kR := kR) (cI := cI) (by rw [i5]; exact hkR) hR hk hK hl2 hb2 (by omega) (by omega) (fun acts3 => ?_)
      rw [wp_bind', W.writeLoc]
      refine ⟨gCell cA n.toNatClampNeg h x, ?_, ?_, ?_, ?_, ?_⟩
      · show ((gT cA cR n.toNatClampNeg K h T x).heap.push _)[T.heap.size]? = _
        rw [Array.getElem?_push, if_neg (by omega), hh]; exact i2
      · intro hx; cases hx
      · unfold gCell; rw [arrV_size]; exact hlt
      · exact q_fits (k := kA) (by show (gT cA cR n.toNatClampNeg K h T x).vm.classes[_]? = _; rw [i5]; exact hkA) hA rfl
      · rw [wp_pure']
        refine hnext _ _ _ ⟨x + 1, hlt, rfl, ?_⟩
        rw [hh, i1]; rfl
    · rintro s' d' acts' ⟨j, hj, hr, rfl⟩
      have : j = n.toNatClampNeg := by
        by_cases hlt : j < n.toNatClampNeg
        · rw [show n.toNatClampNeg - j = (n.toNatClampNeg - (j + 1)) + 1 by omega, List.range'_succ] at hr; cases hr
        · omega
      subst this
      rw [wp_pure', hh]; exact hq _ _
  split
  · rw [hf]
    exact loop _ _
  · exact loop _ _
theorem q_msem {E : CtlPost} {d : Bool} {acts : List Action} {T : State} {Q : Unit → Bool → List Action → State → Prop} {g : JFrame} {index : Nat} {vm₁ : Vm} {rest : List Value} {kA kR : Class} {cI : ClassId} {n k : Int32} (ht : T.topJava?.isSome) (hg : (Jvm.resolveClass g.method.cls index).Gives e.toSetting T.vm (.ok cA) vm₁) (hsz : vm₁.classes.size ≤ T.vm.classes.size) (hst : g.stack = .int k :: .int n :: rest) (hkA : vm₁.classes[cA]? = some kA) (hA : kA.kind = .array cR (.array .int)) (hkR : vm₁.classes[cR]? = some kR) (hR : kR.kind = .array cI .int) (hn : ¬ n < 0) (hN : n.toNatClampNeg = N) (hk : ¬ k < 0) (hK : k.toNatClampNeg = K) (hl : ¬ N > e.platform.arrayLengthLimit) (hb : ¬ N * 4 > e.platform.maxHeapBytes) (hl2 : ¬ K > e.platform.arrayLengthLimit) (hb2 : ¬ K * 4 > e.platform.maxHeapBytes) (hh : T.heap.size = h) (hc : h + 1 + N ≤ e.platform.maxCells) (hs : T.slotsUsed + N + N * K ≤ e.platform.maxSlots) (htop : (gT cA cR N K h (T.setVm vm₁) N).topJava?.isSome) (hq : ∀ d' acts', Q () d' acts' ((gT cA cR N K h (T.setVm vm₁) N).setTop { g with stack := .ref h :: rest })) : Sem.wp (Jvm.Op.multianewarray.sem index 2) Q E e d acts (T.setTop g) := by
  simp only [Jvm.Op.multianewarray.sem, wp_bind']
  rw [W.resolveClassAt_links (t := T.setTop g) (State.method?_setTop g ht) hg hsz]
  rw [wp_bind']
  show Sem.wp (Jvm.popN [Value.int n, Value.int k].length) _ E e d acts ((T.setVm vm₁).setTop g)
  rw [Jvm.Op.popN_top (s := T.setVm vm₁) ht (args := [.int n, .int k]) (rest := rest) hst]
  simp only [List.mapM_cons, List.mapM_nil, wp_bind', wp_pure']
  refine q_make2 (T := (T.setVm vm₁).setTop { g with stack := rest }) (kA := kA) (kR := kR) (cI := cI) hkA hA hkR hR hn hN hk hK hl hb hl2 hb2 hh hc hs (fun d' acts' => ?_)
  rw [gT_top]
  simp only [wp_bind', W.mark, W.pushRef, State.topJava?_setTop' _ htop, Option.some.injEq, exists_eq_left', State.setTop_setTop]
  exact hq _ _
end MULTI
section MULTI2
variable {p : Program} {l : Launch} {e : Env} {R : Room} {s : State} {m : MethodId} {args : Array Value} {below : List Frame} {meth : Method} {c : Code} {H : Heap} {locs : List Loc} {cells slots : Nat} {Q : State → Prop}
theorem q_multi {cc : ByteArray} (hexec : p.tables.exec = Jvm.exec) (hb : c.code = cc) {own : String} {index : Nat} (hown : s.vm.findClass own = some m.cls) (hclink : (Cond.classLink own index "[[I").before args s = true) (hover : (Cond.arrayOver (.array .int)).before args s = true) {cR cI : ClassId} {kR : Class} (hfR : s.vm.findClass ("[" ++ (FieldType.int).toString) = some cR) (hkR : s.vm.classes[cR]? = some kR) (hR : kR.kind = .array cI .int)
    {g : JFrame} (hg : g.method = m) (hdg : decode cc g.pc = .ok (.multianewarray index 2, 4)) {n k : Int32} {N K : Nat} {rest : List Value} (hst : g.stack = .int k :: .int n :: rest) (hn : ¬ n < 0) (hN : n.toNatClampNeg = N) (hk : ¬ k < 0) (hK : k.toNatClampNeg = K) (hN1 : N ≤ 10000) (hK1 : K ≤ 10000) (hcells : cells + (1 + N) ≤ R.cells) (hslots : slots + (N + N * K) ≤ R.slots) {h : Nat} (hh : H.size = h)
    (kk : ∀ (H' : Heap) (cA : ClassId) (l2 : List Loc), (∀ q ∈ l2, q.base = h) → s.vm.findClass ("[" ++ (FieldType.array .int).toString) = some cA → H'.size = h + 1 + N → H'[h]? = some (gCell cA N h N) → (∀ i, i < N → H'[h + 1 + i]? = some (arrV cR K (fun _ => .int 0))) → (∀ q, q < h → H'[q]? = H[q]?) →
      W p l e R s m args below meth c H' (locs ++ l2) (cells + 1 + N) (slots + N + N * K) Q { g with pc := g.pc + 4, stack := .ref h :: rest }) : W p l e R s m args below meth c H locs cells slots Q g := by
  intro T hT X
  subst hT; subst hb; subst hg
  have hpl : e.platform.magicAccessors = ({} : Platform).magicAccessors := by rw [X.admits.platform]
  obtain ⟨comp, cA, kA, hcomp, hidx, hkA, hkindA, hnameA⟩ := arrayOverA_spec hover
  have hcR : comp = cR := by
    rw [← show "[" ++ (FieldType.int).toString = (FieldType.array .int).toString by decide +kernel, hfR] at hcomp
    cases hcomp; rfl
  subst hcR
  obtain ⟨cc', hfcc, hcl⟩ := Cond.classLink_spec hown hclink e.platform hpl
  have hcA : cA = cc' := by
    have hn := hnameA
    rw [show "[" ++ (FieldType.array .int).toString = "[[I" by decide +kernel, hfcc] at hn
    cases hn; rfl
  subst hcA
  obtain ⟨hg₁, hwarm₁, hready₁⟩ := State.classEntry (e := e) X.warmed hcl
  generalize T.vm.noted g.method.cls index (.cls cA) = vm₁ at hg₁ hwarm₁ hready₁
  have hal : s.vm.Alike vm₁ := hwarm₁.alike
  obtain ⟨kA₁, hkA₁, heA⟩ := hal.2.2 _ _ hkA
  obtain ⟨kR₁, hkR₁, heR⟩ := hal.2.2 _ _ hkR
  have hkindA₁ : kA₁.kind = .array comp (.array .int) := by rw [heA]; exact hkindA
  have hkindR₁ : kR₁.kind = .array cI .int := by rw [heR]; exact hR
  have X₁ := X.noted hwarm₁
  obtain ⟨l2, hl2, X₂⟩ := gT_stand (cA := cA) (cR := comp) (N := N) (K := K) (h := h) X₁ hh N (Nat.le_refl _)
  obtain ⟨i1, i2, i3, i4, i5, i6⟩ := gT_at (cA := cA) (cR := comp) (N := N) (K := K) (T := T.setVm vm₁) (h := h) hh N (Nat.le_refl _)
  obtain ⟨hr1, hr2⟩ := X.roomAbove hcells hslots
  have hsz : vm₁.classes.size ≤ T.vm.classes.size := by no_record
  obtain ⟨t', a1, b1⟩ := kk (gT cA comp N K h (T.setVm vm₁) N).heap cA l2 hl2 hnameA i1 i2 i3 i4 _ rfl X₂
  refine ⟨t', ?_, b1⟩
  refine Steps.instr (c := c) (by simpa using X.here) ?_
  rw [hdg]
  show wpRun (p.tables.exec (.multianewarray index 2)) _ _ e (T.setTop g)
  rw [hexec]
  refine q_msem (cA := cA) (cR := comp) (cI := cI) (N := N) (K := K) (h := h) X.here.top hg₁ hsz hst hkA₁ hkindA₁ hkR₁ hkindR₁ hn hN hk hK ?_ ?_ ?_ ?_ hh ?_ ?_ X₂.here.top (fun d' acts' acts2 => ?_)
  · rw [Launch.admits_arrayLengthLimit X.admits]; omega
  · rw [Launch.admits_maxHeapBytes X.admits]; omega
  · rw [Launch.admits_arrayLengthLimit X.admits]; omega
  · rw [Launch.admits_maxHeapBytes X.admits]; omega
  · omega
  · omega
  · rw [afterInstr_ok]; exact a1
end MULTI2
