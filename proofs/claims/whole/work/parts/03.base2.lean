/-! Ok out of V; calls; returns -/
theorem q_good {w : Cond} (h : w ∈ q_T) : (w.onTables && w.keeps) = true ∨ ∃ ty, w = .arrayClass ty := good_of_word (List.mem_filter.mp h).2
def q_mi (M : q_M) (n : Nat) : Prop := Cond.code (q_y M) (q_cc M) (q_ml M) (q_re M) ∈ q_T ∧ Cond.initialized (q_y M).cls ∈ q_T ∧ plainFor (q_y M) = true ∧ ((q_y M).cls ≠ "java/lang/invoke/MethodHandle" ∧ (q_y M).cls ≠ "java/lang/invoke/VarHandle") ∧ (parseMethodDescriptor (q_y M).desc).map (fun d => d.parameters.length) = some n ∧ q_ml M ≤ 20
def q_mv (M : q_M) : Prop := Cond.instanceMethod (q_y M) ∈ q_T ∧ Cond.selects (q_y M).cls (q_y M) (q_y M) ∈ q_T
def q_ent (as : List Value) (n : Nat) : List Value := (as.flatMap fun v => if v.category = 2 then [v, vu] else [v]) ++ List.replicate (n - (as.flatMap fun v => if v.category = 2 then [v, vu] else [v]).length) vu
theorem q_args_at : ∀ (as : List Value) (i k : Nat) (v : Value), (as.flatMap fun v => if v.category = 2 then [v, vu] else [v])[k]? = some v → v ≠ vu → (i + k, v) ∈ lv_args i as := by
  intro as
  induction as with
  | nil => intro i k v h; simp at h
  | cons a as ih =>
    intro i k v h hv
    by_cases hc : a.category = 2
    · simp only [List.flatMap_cons, hc, if_true] at h
      match k, h with
      | 0, h => simp at h; subst h; simp [lv_args]
      | 1, h => simp at h; exact absurd h.symm hv
      | k + 2, h =>
        have h2 : (as.flatMap fun v => if v.category = 2 then [v, vu] else [v])[k]? = some v := by simpa using h
        have := ih (i + 2) k v h2 hv
        simp [lv_args, hc]
        rw [show i + (k + 2) = i + 2 + k by omega]
        exact this
    · simp only [List.flatMap_cons, hc, if_false] at h
      match k, h with
      | 0, h => simp at h; subst h; simp [lv_args]
      | k + 1, h =>
        have h2 : (as.flatMap fun v => if v.category = 2 then [v, vu] else [v])[k]? = some v := by simpa using h
        have := ih (i + 1) k v h2 hv
        have h1 : a.category = 1 := by rcases lv_cat a with h | h; exact h; exact absurd h hc
        simp [lv_args, h1]
        rw [show i + (k + 1) = i + 1 + k by omega]
        exact this
theorem q_ent_len (as : List Value) : (as.flatMap fun v => if v.category = 2 then [v, vu] else [v]).length = (lg_sl as).length := by
  unfold lg_sl
  induction as with
  | nil => rfl
  | cons a as ih =>
    simp only [List.flatMap_cons, List.length_append, ih]
    by_cases hc : a.category = 2 <;> simp [hc]
theorem q_ent_has (as : List Value) {n : Nat} (h : (lg_sl as).length ≤ n) : q_L (q_ent as n) ((lg_sl as ++ List.replicate (n - (lg_sl as).length) Slot.unset).toArray) n := by
  have hl := q_ent_len as
  refine ⟨?_, ?_⟩
  · unfold q_ent
    rw [List.length_append, List.length_replicate, hl]
    omega
  · obtain ⟨h1, h2, h3⟩ := lv_entry as h
    refine ⟨h1, h2, ?_⟩
    rintro ⟨k, v⟩ hkv
    obtain ⟨hk, hv⟩ := q_lv_mem.mp hkv
    unfold q_ent at hk
    by_cases hlt : k < (as.flatMap fun v => if v.category = 2 then [v, vu] else [v]).length
    · rw [List.getElem?_append_left hlt] at hk
      have := q_args_at as 0 k v hk hv
      rw [Nat.zero_add] at this
      exact h3 _ this
    · rw [List.getElem?_append_right (by omega)] at hk
      have := List.mem_of_getElem? hk
      exact absurd (List.eq_of_mem_replicate this) hv
def q_fit (M : q_M) (v : Value) : Prop := match v with
  | .int x => ∃ ty, q_re M = some ty ∧ narrow ty (.int x) = .int x
  | .long _ => q_re M = some .long
  | .float x => x = 0 ∧ q_re M = none
  | _ => False
theorem q_ofW {l : Launch} {y : MethodName} {ws ws' : List Cond} {rm : Room} {Pc : Array Value → State → Prop} {Qc : Array Value → State → Outcome → State → Prop} {mc ms : Nat} {free : Addr → Prop} {cc : ByteArray} {maxL : Nat} {ret : Option FieldType}
    (hy : plainFor y = true) (hw : ws = Cond.code y cc maxL ret :: ws')
    (body : ∀ p e s m args below meth c s₁, BodyLoose p l y (headSpec ws rm) cc maxL ret e s m args below meth c s₁ → c.maxLocals = maxL → Pc args s →
      W p l e (headSpec ws rm).room s m args below meth c s.heap [] 0 0 (MQ below Qc args s mc ms free) (entryFrame m args maxL)) : Met l y ws rm Pc Qc mc ms free := by
  refine MetFree.of_bodySF (code := cc) (maxLocals := maxL) (ret := ret) hy ?_ ?_
  · intro args s m h hn
    obtain ⟨meth, c, h1, h2, h3, h4, h5, h6, -, -⟩ := Cond.code_spec hn (atoms_spec (ws := ws) h _ (by rw [hw]; exact List.mem_cons_self))
    exact ⟨meth, c, h1, h2, h3, h4, h5, h6⟩
  · intro p e s m args below meth c s₁ B hml hP _
    have hh0 : s₁.heap = s.heap := by rw [B.state]; rfl
    obtain ⟨t, a1, o, b1, b2, b3⟩ := body p e s m args below meth c s₁ B hml hP s₁ hh0 (Stand.of_body B)
    exact ⟨t, o, a1, b1, b2, ⟨b3.1, b3.2⟩⟩
theorem Ok_of {D : q_D} {M : q_M} {as L0 : List Value} {z : q_Z} {f : q_F} {Q : Value → q_Z → q_F → Prop} {n : Nat} (hm : q_mi M n) (hz : z.2.2 = (0, 0)) (hL : q_ent as (q_ml M) = L0) (hsz : (lg_sl as).length ≤ q_ml M)
    (h : ∀ C : q_C, (∀ (v : Value) (z' : q_Z) (f' : q_F), z'.2.2.1 ≤ q_mc M → z'.2.2.2 ≤ q_ms M → q_fit M v → Q v z' f' → q_ret D C M v z' f') → V D C M 0 L0 [] z f) : Ok D M as z f Q := by
  intro l
  refine q_ofW (cc := q_cc M) (maxL := q_ml M) (ret := q_re M) hm.2.2.1 rfl ?_
  intro p e s m args below meth c s₁ B hml hv
  obtain ⟨rfl, hW, hK⟩ := hv
  have hts := atoms_spec (ws := q_ws M) B.pre
  have hown : s.vm.findClass (q_y M).cls = some m.cls := findClass_of_methodNamed B.named
  have hnm : meth.name = (q_y M).name := (name_of_methodNamed B.named B.method).1
  have hok : q_ok D (p, l, e, (headSpec (q_ws M) (q_rm M)).room, s, m, as.toArray, below, meth, c, MQ below (q_Qc D Q) as.toArray s (q_mc M) (q_ms M) (fun a => D.1 ≤ a)) M :=
    ⟨B.exec, B.bytes, hml, hown, fun w hw => hts w (List.mem_cons_of_mem _ hw), B.notSynchronized, B.returns, hnm, hK, Nat.le_refl _, Nat.le_refl _, Nat.le_refl _, Nat.le_refl _⟩
  have hlen := q_ent_has as hsz
  rw [hL] at hlen
  have h1 := h _ ?_ hok s.heap _ [] hW hlen (fun q hq => by cases hq)
  · rw [lg_entry_eq]
    have e1 : z.2.2.1 = 0 := by rw [hz]
    have e2 : z.2.2.2 = 0 := by rw [hz]
    rw [e1, e2] at h1
    exact h1
  · intro v z' f' hc hs hfit hq _ H ls locs pc hW' hlo hd
    refine W.widen hc hs ?_
    match v, hfit, hd with
    | .int x, hfit, hd =>
      obtain ⟨ty, hre, hn⟩ := hfit
      refine W.zret (hlocks := B.notSynchronized) B.exec B.bytes (B.returns.trans hre) hn (fun t ht hw => ⟨.int x, z', f', rfl, by rw [ht]; exact hW', hq⟩) hlo hd
    | .long x, hfit, hd =>
      refine W.lret (hlocks := B.notSynchronized) B.exec B.bytes (B.returns.trans hfit) (fun t ht hw => ⟨.long x, z', f', rfl, by rw [ht]; exact hW', hq⟩) hlo hd
    | .float x, hfit, hd =>
      obtain ⟨rfl, hfit⟩ := hfit
      refine W.vret (hlocks := B.notSynchronized) B.exec B.bytes (B.returns.trans hfit) (fun t ht hw => ⟨.float 0, z', f', rfl, by rw [ht]; exact hW', hq⟩) hlo hd
    | .null, hfit, hd => exact hfit.elim
    | .ref _, hfit, hd => exact hfit.elim
    | .double _, hfit, hd => exact hfit.elim
    | .retAddr _, hfit, hd => exact hfit.elim
