/-! the reference's reading rows hold S -/
def mSh (f S : q_F) : Prop := ∀ t w, 0 ≤ t → t < S 1 0 → 0 ≤ w → w < 2 → f 248 (6 * w + t) = S (8 + t) w
def mLo (f S : q_F) : Prop := ∀ p t, 0 ≤ p → p < S 1 1 → 0 ≤ t → t < S 1 0 → f 249 (6 * p + t) = S (15 + p) t
def mOw (f S : q_F) : Prop := ∀ p t, 0 ≤ p → p < S 1 2 → 0 ≤ t → t < S 1 0 → f 250 (6 * p + t) = S (24 + p) t ∧ f 251 (6 * p + t) = S (30 + p) t
def mFe (f S : q_F) : Prop := ∀ p, 0 ≤ p → p < S 1 2 → f 252 p = S 35 p
def mRo (f S : q_F) : Prop := ∀ a b, 0 ≤ a → a < 8 → 0 ≤ b → b < 8 → f 253 (8 * a + b) = S (37 + a) b
def mSi (f S : q_F) : Prop := ∀ s k, 0 ≤ s → s < S 1 4 → 0 ≤ k → k < 5 → f 254 (5 * s + k) = S (46 + s) k
def mRu (f S : q_F) : Prop := ∀ r, 0 ≤ r → r < S 1 5 → f 257 r = S 106 r ∧ f 258 r = S 107 r ∧ f 259 r = S 106 (r + 1)
def mCo (f S : q_F) : Prop := f 246 4 = S 1 6 ∧ f 246 5 = S 1 4 ∧ f 246 6 = S 1 5 ∧ f 219 44 = S 0 14 ∧ f 219 46 = S 0 13
def mE (f S : q_F) (L : List Int) : Prop := mN f S ∧ mCo f S ∧ mSh f S ∧ mLo f S ∧ mOw f S ∧ mFe f S ∧ mRo f S ∧ mSi f S ∧ mRu f S ∧ rcS f L
/-- the rows into which a text is read -/
def rdC (j k : Int) : Prop := (j = 219 ∧ (k = 2 ∨ k = 4 ∨ k = 5 ∨ k = 6 ∨ k = 34 ∨ k = 44 ∨ k = 46 ∨ k = 48 ∨ k = 50 ∨ k = 51 ∨ k = 55)) ∨ (j = 255 ∨ j = 256) ∨ (j = 246 ∧ k < 7) ∨ (j = 247 ∧ k < 32) ∨ (j = 248 ∧ k < 12) ∨ (j = 249 ∧ k < 48) ∨ (j = 250 ∧ k < 30) ∨ (j = 251 ∧ k < 30) ∨ (j = 252 ∧ k < 5) ∨ (j = 253 ∧ k < 64) ∨ (j = 254 ∧ k < 120) ∨ (257 ≤ j ∧ j ≤ 259 ∧ k < 6)
/-- only reading rows change -/
def mZ (f f' : q_F) : Prop := ∀ j k, ¬ rdC j k → f' j k = f j k
/-- how a statement ends -/
def mP (f f' : q_F) (T : Int → Int) (N : Int) (r : q_PR) : Prop := mZ f f' ∧ match r with
  | .inl e => mpS f' T N (.inl e)
  | .inr s => mpS f' T N (.inr (s.2.2.1, s.2.2.2)) ∧ mE f' s.1 s.2.1
section RN3
variable {D : q_D} {f f' f'' S S' : q_F} {A : q_As} {g h : Int} {T : Int → Int} {N p e : Int} {L : List Int}
theorem rd219 {k : Int} (h : k = 2 ∨ k = 4 ∨ k = 5 ∨ k = 6 ∨ k = 34 ∨ k = 44 ∨ k = 46 ∨ k = 48 ∨ k = 50 ∨ k = 51 ∨ k = 55) : rdC 219 k := Or.inl ⟨rfl, h⟩
theorem rd255 {j k : Int} (h : j = 255 ∨ j = 256) : rdC j k := Or.inr (Or.inl h)
theorem rd246 {k : Int} (h : k < 7) : rdC 246 k := Or.inr (Or.inr (Or.inl ⟨rfl, h⟩))
theorem rd247 {k : Int} (h : k < 32) : rdC 247 k := Or.inr (Or.inr (Or.inr (Or.inl ⟨rfl, h⟩)))
theorem rd248 {k : Int} (h : k < 12) : rdC 248 k := Or.inr (Or.inr (Or.inr (Or.inr (Or.inl ⟨rfl, h⟩))))
theorem rd249 {k : Int} (h : k < 48) : rdC 249 k := Or.inr (Or.inr (Or.inr (Or.inr (Or.inr (Or.inl ⟨rfl, h⟩)))))
theorem rd250 {k : Int} (h : k < 30) : rdC 250 k := Or.inr (Or.inr (Or.inr (Or.inr (Or.inr (Or.inr (Or.inl ⟨rfl, h⟩))))))
theorem rd251 {k : Int} (h : k < 30) : rdC 251 k := Or.inr (Or.inr (Or.inr (Or.inr (Or.inr (Or.inr (Or.inr (Or.inl ⟨rfl, h⟩)))))))
theorem rd252 {k : Int} (h : k < 5) : rdC 252 k := Or.inr (Or.inr (Or.inr (Or.inr (Or.inr (Or.inr (Or.inr (Or.inr (Or.inl ⟨rfl, h⟩))))))))
theorem rd253 {k : Int} (h : k < 64) : rdC 253 k := Or.inr (Or.inr (Or.inr (Or.inr (Or.inr (Or.inr (Or.inr (Or.inr (Or.inr (Or.inl ⟨rfl, h⟩)))))))))
theorem rd254 {k : Int} (h : k < 120) : rdC 254 k := Or.inr (Or.inr (Or.inr (Or.inr (Or.inr (Or.inr (Or.inr (Or.inr (Or.inr (Or.inr (Or.inl ⟨rfl, h⟩))))))))))
theorem rd257 {j k : Int} (h1 : 257 ≤ j ∧ j ≤ 259) (h : k < 6) : rdC j k := Or.inr (Or.inr (Or.inr (Or.inr (Or.inr (Or.inr (Or.inr (Or.inr (Or.inr (Or.inr (Or.inr ⟨h1.1, h1.2, h⟩))))))))))
theorem rdx {j k : Int} (b : j = 219 ∧ (k = 2 ∨ k = 4 ∨ k = 5 ∨ k = 6 ∨ k = 34)) : rdC j k := by
  obtain ⟨rfl, b⟩ := b
  exact rd219 (by omega)
theorem mZ.refl (f : q_F) : mZ f f := fun _ _ _ => rfl
theorem mZ.tr (h : mZ f f') (h2 : mZ f' f'') : mZ f f'' := fun j k a => by rw [h2 j k a]; exact h j k a
theorem mZ.up {j k x : Int} (h : mZ f f') (hj : rdC j k) : mZ f (q_up f' j k x) := fun i w a => by
  have hne : i ≠ j ∨ w ≠ k := by
    by_cases e : i = j
    · refine Or.inr (fun e2 => a ?_)
      rw [e, e2]; exact hj
    · exact Or.inl e
  rw [q_up_ne hne]; exact h i w a
theorem mK.z (h : mK f f') : mZ f f' := fun j k a => h j k (fun b => a (rdx b))
theorem mQ.z (h : mQ f f') : mZ f f' := fun j k a => h j k (fun b => a (by obtain ⟨rfl, b⟩ := b; exact rd219 (by omega))) (fun b => a (rd255 (Or.inl b))) (fun b => a (rd255 (Or.inr b)))
theorem mZ.w (h : mZ f f') (hw : mW f) : mW f' := fun i hi k hk => by rw [h _ _ (fun a => by unfold rdC at a; omega)]; exact hw i hi k hk
theorem mSh.fr (hM : mSh f S) (hf : ∀ k, f' 248 k = f 248 k) (hS : S' 1 0 = S 1 0 ∧ ∀ t w, 0 ≤ t → t < S 1 0 → S' (8 + t) w = S (8 + t) w) : mSh f' S' := fun t w a b c d => by rw [hS.1] at b; rw [hf, hS.2 t w a b]; exact hM t w a b c d
theorem mLo.fr (hM : mLo f S) (hf : ∀ k, f' 249 k = f 249 k) (hS : S' 1 0 = S 1 0 ∧ S' 1 1 = S 1 1 ∧ ∀ p t, 0 ≤ p → p < S 1 1 → S' (15 + p) t = S (15 + p) t) : mLo f' S' := fun t w a b c d => by rw [hS.2.1] at b; rw [hS.1] at d; rw [hf, hS.2.2 t w a b]; exact hM t w a b c d
theorem mOw.fr (hM : mOw f S) (hf : ∀ k, f' 250 k = f 250 k ∧ f' 251 k = f 251 k) (hS : S' 1 0 = S 1 0 ∧ S' 1 2 = S 1 2 ∧ ∀ p t, 0 ≤ p → p < S 1 2 → S' (24 + p) t = S (24 + p) t ∧ S' (30 + p) t = S (30 + p) t) : mOw f' S' := fun t w a b c d => by rw [hS.2.1] at b; rw [hS.1] at d; rw [(hf _).1, (hf _).2, (hS.2.2 t w a b).1, (hS.2.2 t w a b).2]; exact hM t w a b c d
theorem mFe.fr (hM : mFe f S) (hf : ∀ k, f' 252 k = f 252 k) (hS : S' 1 2 = S 1 2 ∧ ∀ p, S' 35 p = S 35 p) : mFe f' S' := fun t a b => by rw [hS.1] at b; rw [hf, hS.2]; exact hM t a b
theorem mRo.fr (hM : mRo f S) (hf : ∀ k, f' 253 k = f 253 k) (hS : ∀ a b, 0 ≤ a → a < 8 → S' (37 + a) b = S (37 + a) b) : mRo f' S' := fun t w a b c d => by rw [hf, hS t w a b]; exact hM t w a b c d
theorem mSi.fr (hM : mSi f S) (hf : ∀ k, f' 254 k = f 254 k) (hS : S' 1 4 = S 1 4 ∧ ∀ p t, 0 ≤ p → p < S 1 4 → S' (46 + p) t = S (46 + p) t) : mSi f' S' := fun t w a b c d => by rw [hS.1] at b; rw [hf, hS.2 t w a b]; exact hM t w a b c d
theorem mRu.fr (hM : mRu f S) (hf : ∀ k, f' 257 k = f 257 k ∧ f' 258 k = f 258 k ∧ f' 259 k = f 259 k) (hS : S' 1 5 = S 1 5 ∧ ∀ p, S' 106 p = S 106 p ∧ S' 107 p = S 107 p) : mRu f' S' := fun t a b => by rw [hS.1] at b; rw [(hf t).1, (hf t).2.1, (hf t).2.2, (hS.2 t).1, (hS.2 t).2, (hS.2 (t + 1)).1]; exact hM t a b
/-- a name is added -/
theorem mN.add (hM : mN f S) (hW : pW S) {k : Int} (hk : 0 ≤ k ∧ k < 4) {l : List Int} (hl : isNm l) (hf : ∀ i, 0 ≤ i → i < 4 → f' 246 i = if i = k then S 1 k + 1 else f 246 i) (hf2 : ∀ i, i < 32 → f' 247 i = if i = 8 * k + S 1 k then pk27 l else f 247 i) (hlt : S 1 k < 8) (hS : ∀ i w, (i = 1 ∧ 0 ≤ w ∧ w < 4) ∨ (3 ≤ i ∧ i < 7) → S' i w = addN S k (pk32 l) i w) : mN f' S' := by
  have hc := hW.cn hk
  have e1 : ∀ i, 0 ≤ i → i < 4 → S' 1 i = if i = k then S 1 k + 1 else S 1 i := fun i a b => by
    rw [hS _ _ (by omega)]; unfold addN
    split
    · next e => rw [e, q_up_eq]
    · next e => rw [q_up_ne (by omega), q_up_ne (by omega)]
  refine ⟨fun i a b => ?_, fun i w a b c d => ?_⟩
  · rw [hf i a b, e1 i a b, hM.1 i a b]
  · have hci := hW.cn (k := i) ⟨a, b⟩
    rw [e1 i a b] at d
    by_cases he : i = k ∧ w = S 1 k
    · refine ⟨l, hl, ?_, ?_⟩
      · rw [hS _ _ (by omega), he.1, he.2]; unfold addN
        rw [q_up_ne (by omega), q_up_eq]
      · rw [hf2 _ (by omega), if_pos (by omega)]
    · have hw : w < S 1 i := by
        split at d
        · next e => rw [e]; omega
        · exact d
      obtain ⟨u, u1, u2, u3⟩ := hM.2 i w a b c hw
      refine ⟨u, u1, ?_, ?_⟩
      · rw [hS _ _ (by omega)]; unfold addN
        rw [q_up_ne (by omega), q_up_ne (by omega)]; exact u2
      · rw [hf2 _ (by omega), if_neg (by omega)]; exact u3
end RN3
