/-! what stays where cells stay -/
section FRAME
variable {f f' : q_F} {A A' : q_As} {g : Int}
/-- one guild in two states -/
def gEq (A A' : q_As) : Prop := A' 0 = A 0 ∧ A' 1 = A 1 ∧ A' 2 = A 2 ∧ A' 3 = A 3 ∧ A' 4 = A 4 ∧ A' 5 = A 5 ∧ A' 6 = A 6 ∧ A' 7 = A 7 ∧ A' 8 = A 8 ∧ A' 9 = A 9 ∧ A' 10 = A 10 ∧ A' 16 = A 16
theorem gEq.cn (h : gEq A A') : can A' = can A := by
  obtain ⟨e0, e1, e2, e3, e4, e5, e6, e7, e8, e9, e10, e16⟩ := h
  funext s t
  unfold can near
  rw [e6, e7]
theorem Wg.mono (h : gEq A A') (hW : Wg A) : Wg A' := by
  obtain ⟨e0, e1, e2, e3, e4, e5, e6, e7, e8, e9, e10, e16⟩ := h
  unfold Wg
  rw [e0, e6, e7, e8, e9, e10, e16]
  exact hW
theorem Cg.mono (h : gEq A A') (hW : Wg A) (hf : ∀ j k, g ≤ j → j < g + 84 → f' j k = f j k) (hG : Cg g f A) : Cg g f' A' := by
  have hcan := h.cn
  have hn := hW.1
  obtain ⟨e0, e1, e2, e3, e4, e5, e6, e7, e8, e9, e10, e16⟩ := h
  unfold Cg
  rw [e0, e1, e2, e3, e4, e5, e6, e7, e8, e9, e10, e16, hcan]
  obtain ⟨c1, c2, c3, c4, c5, c6, c7, c8, c9, c10, c11, c12⟩ := hG
  exact ⟨fun k a b => by rw [hf _ _ (by omega) (by omega)]; exact c1 k a b,
    by rw [hf _ _ (by omega) (by omega)]; exact c2,
    fun i w k a b c d e e2 => by rw [hf _ _ (by omega) (by omega)]; exact c3 i w k a b c d e e2,
    fun t w a b c d => by rw [hf _ _ (by omega) (by omega)]; exact c4 t w a b c d,
    fun p t a b c d => by rw [hf _ _ (by omega) (by omega)]; exact c5 p t a b c d,
    fun p t a b c d => by rw [hf _ _ (by omega) (by omega), hf _ _ (by omega) (by omega)]; exact c6 p t a b c d,
    fun p a b => by rw [hf _ _ (by omega) (by omega)]; exact c7 p a b,
    fun p t a b c d => by rw [hf _ _ (by omega) (by omega)]; exact c8 p t a b c d,
    fun p t a b c d => by rw [hf _ _ (by omega) (by omega)]; exact c9 p t a b c d,
    fun p t a b c d => by rw [hf _ _ (by omega) (by omega), hf _ _ (by omega) (by omega)]; exact c10 p t a b c d,
    fun s a b => by rw [hf _ _ (by omega) (by omega)]; exact c11 s a b,
    fun s a b => by rw [hf _ _ (by omega) (by omega)]; exact c12 s a b⟩
theorem Ch.mono (e0 : A' 0 = A 0) (e11 : A' 11 = A 11) (e12 : A' 12 = A 12) (e13 : A' 13 0 0 = A 13 0 0) (hf : ∀ j k, 10 ≤ j → j < 43 → f' j k = f j k) (hH : Ch f A) : Ch f' A' := by
  unfold Ch
  rw [e0, e11, e12, e13]
  obtain ⟨c1, c2, c3, c4⟩ := hH
  have h2 := hf 10 2 (by decide) (by decide)
  refine ⟨fun s a b => by rw [hf _ _ (by omega) (by omega)]; exact c1 s a b, by rw [hf _ _ (by omega) (by omega)]; exact c2, by rw [h2]; exact c3, fun n s a b c d => ?_⟩
  rw [h2, hf _ _ (by omega) (by omega)]; exact c4 n s a b c d
theorem Wh.mono (h : gEq A A') (e11 : A' 11 = A 11) (e12 : A' 12 = A 12) (e13 : A' 13 0 0 = A 13 0 0) (hW : Wh A) : Wh A' := by
  unfold Wh
  rw [h.cn, h.1, e11, e12, e13]
  exact hW
/-- the reference's cells that hold what stands -/
def q_mg (j k : Int) : Prop := (j = 246 ∧ 7 ≤ k) ∨ (j = 219 ∧ k = 45) ∨ (j = 247 ∧ 32 ≤ k) ∨ (j = 248 ∧ 12 ≤ k) ∨ (j = 249 ∧ 48 ≤ k) ∨ ((j = 250 ∨ j = 251) ∧ 30 ≤ k) ∨ (j = 252 ∧ 5 ≤ k) ∨ (j = 253 ∧ 64 ≤ k) ∨ (j = 254 ∧ 120 ≤ k) ∨ j = 262 ∨ j = 263 ∨ j = 265
theorem Mg.mono (h : gEq A A') (hf : ∀ j k, q_mg j k → f' j k = f j k) (hW : Wg A) (hG : Mg f A) : Mg f' A' := by
  have hcan := h.cn
  have hn := hW.1
  obtain ⟨e0, e1, e2, e3, e4, e5, e6, e7, e8, e9, e10, e16⟩ := h
  unfold Mg
  rw [e0, e1, e2, e3, e4, e5, e6, e7, e8, e9, e10, hcan]
  unfold q_mg at hf
  obtain ⟨⟨c1, c2, c3, c4, c5, c6⟩, d1, d2, d3, d4, d5, d6, d7, d8, d9, d10⟩ := hG
  refine ⟨⟨?_, ?_, ?_, ?_, ?_, ?_⟩, ?_, fun i w a b c d => ?_, fun t w a b c d => ?_, fun p t a b c d => ?_, fun p t a b c d => ?_, fun p a b => ?_, fun p t a b c d => ?_, fun p t a b c d => ?_, fun p t a b c d => ?_, fun s a b => ?_⟩
  · rw [hf _ _ (by omega)]; exact c1
  · rw [hf _ _ (by omega)]; exact c2
  · rw [hf _ _ (by omega)]; exact c3
  · rw [hf _ _ (by omega)]; exact c4
  · rw [hf _ _ (by omega)]; exact c5
  · rw [hf _ _ (by omega)]; exact c6
  · rw [hf _ _ (by omega)]; exact d1
  · rw [hf _ _ (by omega)]; exact d2 i w a b c d
  · rw [hf _ _ (by omega)]; exact d3 t w a b c d
  · rw [hf _ _ (by omega)]; exact d4 p t a b c d
  · rw [hf _ _ (by omega), hf _ _ (by omega)]; exact d5 p t a b c d
  · rw [hf _ _ (by omega)]; exact d6 p a b
  · rw [hf _ _ (by omega)]; exact d7 p t a b c d
  · rw [hf _ _ (by omega)]; exact d8 p t a b c d
  · rw [hf _ _ (by omega), hf _ _ (by omega)]; exact d9 p t a b c d
  · rw [hf _ _ (by omega)]; exact d10 s a b
theorem Mh.mono (e0 : A' 0 = A 0) (e11 : A' 11 = A 11) (e12 : A' 12 = A 12) (e13 : A' 13 0 0 = A 13 0 0) (h1 : ∀ k, f' 264 k = f 264 k) (h2 : ∀ k, f' 266 k = f 266 k) (h3 : f' 219 64 = f 219 64) (h4 : f' 219 65 = f 219 65) (hH : Mh f A) : Mh f' A' := by
  unfold Mh
  rw [e0, e11, e12, e13, h3, h4]
  obtain ⟨c1, c2, c3, c4⟩ := hH
  refine ⟨fun s a b => by rw [h1]; exact c1 s a b, c2, c3, fun n s a b c d => ?_⟩
  rw [h2]; exact c4 n s a b c d
theorem q_lo.refl (f : q_F) : q_lo f f := fun _ _ _ => rfl
theorem q_hi.refl (f : q_F) : q_hi f f := fun _ _ _ => rfl
theorem q_up_at {f : q_F} {j k x a b : Int} (h : ¬ a = j) : q_up f j k x a b = f a b := q_up_ne (Or.inl h)
end FRAME
