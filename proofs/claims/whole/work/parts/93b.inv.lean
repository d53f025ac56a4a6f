/-! what a text keeps: the invariants of what was told -/
def xRo (S : q_F) : Prop := ∀ a b, 0 ≤ a → a < 8 → 0 ≤ b → b < 8 → S (37 + a) b = S (37 + b) a ∧ S (37 + a) a = 0 ∧ (¬ a = b → S 1 3 ≤ a ∨ S 1 3 ≤ b → S (37 + a) b = 1000)
def xSi (S : q_F) : Prop := ∀ s, 0 ≤ s → s < S 1 4 → (0 ≤ S (46 + s) 0 ∧ S (46 + s) 0 < S 1 1) ∧ (0 ≤ S (46 + s) 1 ∧ S (46 + s) 1 < S 1 3) ∧ (0 ≤ S (46 + s) 2 ∧ S (46 + s) 2 ≤ 99) ∧ (0 ≤ S (46 + s) 3 ∧ S (46 + s) 3 ≤ 100) ∧ (0 ≤ S (46 + s) 4 ∧ S (46 + s) 4 ≤ 1)
def xSh (S : q_F) : Prop := ∀ h, 0 ≤ h → h < S 1 2 → (1 ≤ S 35 h ∧ S 35 h ≤ 99) ∧ ∀ t, 0 ≤ t → t < S 1 0 → (0 ≤ S (24 + h) t ∧ S (24 + h) t ≤ 9) ∧ (0 ≤ S (30 + h) t ∧ S (30 + h) t ≤ 1)
def xLo (S : q_F) : Prop := ∀ p t, 0 ≤ p → p < S 1 1 → 0 ≤ t → t < S 1 0 → 0 ≤ S (15 + p) t ∧ S (15 + p) t ≤ 9
def xTr (S : q_F) : Prop := ∀ t w, 0 ≤ t → t < S 1 0 → 0 ≤ w → w < 2 → 0 ≤ S (8 + t) w ∧ S (8 + t) w ≤ 100
def xTi (S : q_F) : Prop := 0 ≤ S 0 14 ∧ S 0 14 ≤ 100
def xNa (S : q_F) : Prop := ∀ i w, 0 ≤ i → i < 4 → 0 ≤ w → w < S 1 i → ∃ l, isNm l ∧ S (3 + i) w = pk32 l
def xRu (S : q_F) (L : List Int) : Prop := (∀ r, 0 ≤ r → r < S 1 5 → ∃ a c1 c2 z, L = a ++ (c1 ++ (c2 ++ z)) ∧ S 106 r = a.length ∧ S 107 r = (a.length : Int) + c1.length ∧ S 106 (r + 1) = (a.length : Int) + c1.length + c2.length ∧ wfV 21 bd6 c1 ∧ wfV 24 is01 c2) ∧ (0 < S 1 5 → S 106 (S 1 5) = L.length)
def pX (S : q_F) (L : List Int) : Prop := xRo S ∧ xSi S ∧ xSh S ∧ xLo S ∧ xTr S ∧ xTi S ∧ xNa S ∧ xRu S L
section INV
variable {S S' : q_F} {T : Int → Int} {N p e : Int} {L : List Int}
theorem xRo.fr (h : xRo S) (hr : ∀ a b, 0 ≤ a → a < 8 → S' (37 + a) b = S (37 + a) b) (hc : S 1 3 ≤ S' 1 3) : xRo S' := fun a b a0 a1 b0 b1 => by
  have h1 := h a b a0 a1 b0 b1
  rw [hr a b a0 a1, hr b a b0 b1, hr a a a0 a1]
  exact ⟨h1.1, h1.2.1, fun hn ho => h1.2.2 hn (by omega)⟩
theorem xSi.fr (h : xSi S) (c4 : S' 1 4 = S 1 4) (c1 : S 1 1 ≤ S' 1 1) (c3 : S 1 3 ≤ S' 1 3) (hr : ∀ s k, 0 ≤ s → s < S 1 4 → S' (46 + s) k = S (46 + s) k) : xSi S' := fun s s0 s1 => by
  rw [c4] at s1
  have h1 := h s s0 s1
  rw [hr s 0 s0 s1, hr s 1 s0 s1, hr s 2 s0 s1, hr s 3 s0 s1, hr s 4 s0 s1]
  exact ⟨by omega, by omega, h1.2.2.1, h1.2.2.2.1, h1.2.2.2.2⟩
theorem xSh.fr (h : xSh S) (c2 : S' 1 2 = S 1 2) (c0 : S' 1 0 = S 1 0) (hr : ∀ i t, 0 ≤ i → i < S 1 2 → S' 35 i = S 35 i ∧ S' (24 + i) t = S (24 + i) t ∧ S' (30 + i) t = S (30 + i) t) : xSh S' := fun i i0 i1 => by
  rw [c2] at i1
  have h1 := h i i0 i1
  refine ⟨by rw [(hr i 0 i0 i1).1]; exact h1.1, fun t t0 t1 => ?_⟩
  rw [c0] at t1
  rw [(hr i t i0 i1).2.1, (hr i t i0 i1).2.2]; exact h1.2 t t0 t1
theorem xLo.fr (h : xLo S) (c1 : S' 1 1 = S 1 1) (c0 : S' 1 0 = S 1 0) (hr : ∀ i t, 0 ≤ i → i < S 1 1 → S' (15 + i) t = S (15 + i) t) : xLo S' := fun i t i0 i1 t0 t1 => by
  rw [c1] at i1; rw [c0] at t1; rw [hr i t i0 i1]; exact h i t i0 i1 t0 t1
theorem xTr.fr (h : xTr S) (c0 : S' 1 0 = S 1 0) (hr : ∀ i t, 0 ≤ i → i < S 1 0 → S' (8 + i) t = S (8 + i) t) : xTr S' := fun i t i0 i1 t0 t1 => by
  rw [c0] at i1; rw [hr i t i0 i1]; exact h i t i0 i1 t0 t1
theorem xNa.fr (h : xNa S) (c : ∀ i, 0 ≤ i → i < 4 → S' 1 i = S 1 i) (hr : ∀ i w, 0 ≤ i → i < 4 → S' (3 + i) w = S (3 + i) w) : xNa S' := fun i w i0 i1 w0 w1 => by
  rw [c i i0 i1] at w1; rw [hr i w i0 i1]; exact h i w i0 i1 w0 w1
theorem xNa.add (h : xNa S) {k : Int} {l : List Int} (hl : isNm l) (hk : 0 ≤ k ∧ k < 4) (hs : ∀ i w, (i = 1 ∧ 0 ≤ w ∧ w < 4) ∨ (3 ≤ i ∧ i < 7) → S' i w = addN S k (pk32 l) i w) : xNa S' := fun i w i0 i1 w0 w1 => by
  rw [hs _ _ (by omega), addN_cn hk] at w1
  rw [hs _ _ (by omega)]
  by_cases e : i = k ∧ w = S 1 k
  · refine ⟨l, hl, ?_⟩
    rw [e.1, e.2]; unfold addN; rw [q_up_ne (by omega), q_up_eq]
  · have hw : w < S 1 i := by
      split at w1
      · next e1 => rw [e1]; omega
      · exact w1
    unfold addN; rw [q_up_ne (by omega), q_up_ne (by omega)]; exact h i w i0 i1 w0 hw
theorem xRu.fr (h : xRu S L) (c5 : S' 1 5 = S 1 5) (hr : ∀ k, S' 106 k = S 106 k ∧ S' 107 k = S 107 k) : xRu S' L := by
  refine ⟨fun r r0 r1 => ?_, fun h0 => ?_⟩
  · rw [c5] at r1; rw [(hr r).1, (hr r).2, (hr (r + 1)).1]; exact h.1 r r0 r1
  · rw [c5] at h0 ⊢; rw [(hr _).1]; exact h.2 h0
/-- an unknown is one whose place is not there yet -/
theorem pX.rsy (h : pX S L) : rsy S := fun a b a0 a1 b0 b1 => (h.1 a b a0 a1 b0 b1).1
theorem sNew_in {k q d : Int} (hp : p ≤ N) (hs : sNew S T N k p e = .inr (S', q, d)) : ∃ l, isNm l ∧ S' = addN S k (pk32 l) := by
  unfold sNew at hs
  obtain ⟨⟨l, q1, d1⟩, h1, h2⟩ := rb_inr hs
  have hl := l_name_rg hp h1
  have h2 : (if gvn S (pk32 l) then (.inl (3, p) : q_R (q_F × Int × Int)) else .inr (addN S k (pk32 l), q1, d1)) = .inr (S', q, d) := h2
  split at h2
  · cases h2
  · cases h2; exact ⟨l, hl.1, rfl⟩
theorem sNum_in {j k lo hi q d : Int} (hs : sNum S T N j k lo hi p e = .inr (S', q, d)) : ∃ v, (lo ≤ v ∧ v ≤ hi) ∧ S' = q_up S j k v := by
  unfold sNum at hs
  obtain ⟨⟨v, q1, d1⟩, h1, h2⟩ := rb_inr hs
  cases h2
  exact ⟨v, l_num_lo h1, rfl⟩
theorem sFor_in {j hi : Int} : ∀ (m : Nat) (S S' : q_F) (k p e q d : Int), sFor T N j hi m S k p e = .inr (S', q, d) → (∀ a b, ¬ (a = j ∧ k ≤ b ∧ b < k + m) → S' a b = S a b) ∧ ∀ b, k ≤ b → b < k + m → 0 ≤ S' j b ∧ S' j b ≤ hi := by
  intro m
  induction m with
  | zero => intro S S' k p e q d h; cases h; exact ⟨fun _ _ _ => rfl, fun b h1 h2 => by omega⟩
  | succ m ih =>
    intro S S' k p e q d h
    obtain ⟨⟨S1, q1, d1⟩, h1, h2⟩ := rb_inr (show rb (sNum S T N j k 0 hi p e) (fun s => sFor T N j hi m s.1 (k + 1) s.2.1 s.2.2) = .inr (S', q, d) from h)
    obtain ⟨v, hv, rfl⟩ := sNum_in h1
    have h2 : sFor T N j hi m (q_up S j k v) (k + 1) q1 d1 = .inr (S', q, d) := h2
    obtain ⟨g1, g2⟩ := ih _ _ _ _ _ _ _ h2
    refine ⟨fun a b hn => ?_, fun b hb1 hb2 => ?_⟩
    · rw [g1 a b (by push_cast at hn; omega), q_up_ne (by push_cast at hn; omega)]
    · by_cases eb : b = k
      · rw [eb, g1 j k (by omega), q_up_eq]; exact hv
      · exact g2 b (by omega) (by push_cast at hb2; omega)
theorem pX.person (h : pX S L) (hW : pW S) (hr : S 1 1 < 8) (hp : p ≤ N) {q d : Int} (hs : sPerson S T N p e = .inr (S', q, d)) : pX S' L ∧ S' 0 13 = S 0 13 := by
  obtain ⟨⟨S1, q1, d1⟩, h1, h2⟩ := rb_inr hs
  obtain ⟨l, hl, rfl⟩ := sNew_in hp h1
  have h2 : sFor T N (15 + S 1 1) 9 (addN S 1 (pk32 l) 1 0).toNat (addN S 1 (pk32 l)) 0 q1 d1 = .inr (S', q, d) := h2
  have n0 : addN S 1 (pk32 l) 1 0 = S 1 0 := by rw [addN_cn (by decide), if_neg (by decide)]
  rw [n0] at h2
  have b0 := hW.1
  have b1 := hW.2.1
  obtain ⟨g1, g2⟩ := sFor_in _ _ _ _ _ _ _ _ h2
  have an : ∀ j i, ¬ j = 15 + S 1 1 → S' j i = addN S 1 (pk32 l) j i := fun j i hj => g1 j i (by omega)
  have cn : ∀ i, ¬ i = 1 → S' 1 i = S 1 i := fun i hi => by rw [an _ _ (by omega), addN_cn (by decide), if_neg hi]
  have c1 : S' 1 1 = S 1 1 + 1 := by rw [an _ _ (by omega), addN_cn (by decide), if_pos rfl]
  have sn : ∀ j i, ¬ j = 15 + S 1 1 → ¬ (j = 1 ∧ 0 ≤ i ∧ i < 4) ∧ ¬ (3 ≤ j ∧ j < 7) → S' j i = S j i := fun j i a b => by rw [an j i a]; exact addN_ne (by decide) b
  obtain ⟨x1, x2, x3, x4, x5, x6, x7, x8⟩ := h
  have b4 := hW.2.2.2.2.1
  have b2 := hW.2.2.1
  refine ⟨⟨x1.fr (fun a b _ _ => sn _ _ (by omega) (by omega)) (by rw [cn _ (by decide)]; omega), x2.fr (cn _ (by decide)) (by omega) (by rw [cn _ (by decide)]; omega) (fun s k _ _ => sn _ _ (by omega) (by omega)), x3.fr (cn _ (by decide)) (cn _ (by decide)) (fun i t _ _ => ⟨sn _ _ (by omega) (by omega), sn _ _ (by omega) (by omega), sn _ _ (by omega) (by omega)⟩), ?_, x5.fr (cn _ (by decide)) (fun i t _ _ => sn _ _ (by omega) (by omega)), ?_, x7.add hl (by decide) (fun i w hi => an _ _ (by omega)), x8.fr (cn _ (by decide)) (fun k => ⟨sn _ _ (by omega) (by omega), sn _ _ (by omega) (by omega)⟩)⟩, sn _ _ (by omega) (by omega)⟩
  · intro i t i0 i1 t0 t1
    rw [c1] at i1; rw [cn _ (by decide)] at t1
    by_cases ei : i = S 1 1
    · rw [ei]; exact g2 t t0 (by omega)
    · rw [sn _ _ (by omega) (by omega)]; exact x4 i t i0 (by omega) t0 t1
  · unfold xTi; rw [sn _ _ (by omega) (by omega)]; exact x6
theorem pX.shade (h : pX S L) (hW : pW S) (hr : S 1 2 < 5) (hp : p ≤ N) {q d : Int} (hs : sShade S T N p e = .inr (S', q, d)) : pX S' L ∧ S' 0 13 = S 0 13 := by
  obtain ⟨⟨S1, q1, d1⟩, h1, h2⟩ := rb_inr hs
  obtain ⟨l, hl, rfl⟩ := sNew_in hp h1
  obtain ⟨⟨q2, d2⟩, h3, h4⟩ := rb_inr (show rb (l_word T N 3 q1 d1) (fun u => sShade3 T N (S 1 2) (addN S 2 (pk32 l)) u.1 u.2) = .inr (S', q, d) from h2)
  obtain ⟨⟨S3, q3, d3⟩, h5, h6⟩ := rb_inr (show rb (sNum (addN S 2 (pk32 l)) T N 35 (S 1 2) 1 99 q2 d2) (fun s => sShade4 T N (S 1 2) s.1 s.2.1 s.2.2) = .inr (S', q, d) from h4)
  obtain ⟨v, hv, rfl⟩ := sNum_in h5
  obtain ⟨⟨S4, q4, d4⟩, h7, h8⟩ := rb_inr (show rb (sFor T N (24 + S 1 2) 9 (q_up (addN S 2 (pk32 l)) 35 (S 1 2) v 1 0).toNat (q_up (addN S 2 (pk32 l)) 35 (S 1 2) v) 0 q3 d3) (fun s => sShade5 T N (S 1 2) s.1 s.2.1 s.2.2) = .inr (S', q, d) from h6)
  obtain ⟨⟨q5, d5⟩, h9, h10⟩ := rb_inr (show rb (l_word T N 4 q4 d4) (fun u => sShade6 T N (S 1 2) S4 u.1 u.2) = .inr (S', q, d) from h8)
  have h10 : sFor T N (30 + S 1 2) 1 (S4 1 0).toNat S4 0 q5 d5 = .inr (S', q, d) := h10
  have b0 := hW.1
  have b1 := hW.2.1
  have b2 := hW.2.2.1
  have b4 := hW.2.2.2.2.1
  have n0 : q_up (addN S 2 (pk32 l)) 35 (S 1 2) v 1 0 = S 1 0 := by rw [q_up_ne (by omega), addN_cn (by decide), if_neg (by decide)]
  rw [n0] at h7
  obtain ⟨g1, g2⟩ := sFor_in _ _ _ _ _ _ _ _ h7
  have n4 : S4 1 0 = S 1 0 := by rw [g1 _ _ (by omega), n0]
  rw [n4] at h10
  obtain ⟨k1, k2⟩ := sFor_in _ _ _ _ _ _ _ _ h10
  have an : ∀ j i, ¬ j = 24 + S 1 2 → ¬ j = 30 + S 1 2 → ¬ (j = 35 ∧ i = S 1 2) → S' j i = addN S 2 (pk32 l) j i := fun j i a b c => by
    rw [k1 j i (by omega), g1 j i (by omega), q_up_ne (by omega)]
  have cn : ∀ i, ¬ i = 2 → S' 1 i = S 1 i := fun i hi => by rw [an _ _ (by omega) (by omega) (by omega), addN_cn (by decide), if_neg hi]
  have c2 : S' 1 2 = S 1 2 + 1 := by rw [an _ _ (by omega) (by omega) (by omega), addN_cn (by decide), if_pos rfl]
  have sn : ∀ j i, ¬ j = 24 + S 1 2 → ¬ j = 30 + S 1 2 → ¬ (j = 35 ∧ i = S 1 2) → ¬ (j = 1 ∧ 0 ≤ i ∧ i < 4) ∧ ¬ (3 ≤ j ∧ j < 7) → S' j i = S j i := fun j i a b c d => by rw [an j i a b c]; exact addN_ne (by decide) d
  obtain ⟨x1, x2, x3, x4, x5, x6, x7, x8⟩ := h
  refine ⟨⟨x1.fr (fun a b _ _ => sn _ _ (by omega) (by omega) (by omega) (by omega)) (by rw [cn _ (by decide)]; omega), x2.fr (cn _ (by decide)) (by rw [cn _ (by decide)]; omega) (by rw [cn _ (by decide)]; omega) (fun s k _ _ => sn _ _ (by omega) (by omega) (by omega) (by omega)), ?_, x4.fr (cn _ (by decide)) (cn _ (by decide)) (fun i t _ _ => sn _ _ (by omega) (by omega) (by omega) (by omega)), x5.fr (cn _ (by decide)) (fun i t _ _ => sn _ _ (by omega) (by omega) (by omega) (by omega)), ?_, x7.add hl (by decide) (fun i w hi => an _ _ (by omega) (by omega) (by omega)), x8.fr (cn _ (by decide)) (fun k => ⟨sn _ _ (by omega) (by omega) (by omega) (by omega), sn _ _ (by omega) (by omega) (by omega) (by omega)⟩)⟩, sn _ _ (by omega) (by omega) (by omega) (by omega)⟩
  · intro i i0 i1
    rw [c2] at i1
    by_cases ei : i = S 1 2
    · rw [ei]
      refine ⟨?_, fun t t0 t1 => ⟨?_, ?_⟩⟩
      · rw [k1 _ _ (by omega), g1 _ _ (by omega), q_up_eq]; exact hv
      · rw [cn _ (by decide)] at t1
        rw [k1 _ _ (by omega)]; exact g2 t t0 (by omega)
      · rw [cn _ (by decide)] at t1
        exact k2 t t0 (by omega)
    · refine ⟨by rw [sn _ _ (by omega) (by omega) (by omega) (by omega)]; exact (x3 i i0 (by omega)).1, fun t t0 t1 => ?_⟩
      rw [cn _ (by decide)] at t1
      rw [sn _ _ (by omega) (by omega) (by omega) (by omega), sn _ _ (by omega) (by omega) (by omega) (by omega)]; exact (x3 i i0 (by omega)).2 t t0 t1
  · unfold xTi; rw [sn _ _ (by omega) (by omega) (by omega) (by omega)]; exact x6
theorem pX.place (h : pX S L) (hW : pW S) (hr : S 1 3 < 8) (hp : p ≤ N) {q d : Int} (hs : sNew S T N 3 p e = .inr (S', q, d)) : pX S' L ∧ S' 0 13 = S 0 13 := by
  obtain ⟨l, hl, rfl⟩ := sNew_in hp hs
  have b0 := hW.1
  have b1 := hW.2.1
  have b2 := hW.2.2.1
  have b4 := hW.2.2.2.2.1
  have cn : ∀ i, ¬ i = 3 → addN S 3 (pk32 l) 1 i = S 1 i := fun i hi => by rw [addN_cn (by decide), if_neg hi]
  have c3 : addN S 3 (pk32 l) 1 3 = S 1 3 + 1 := by rw [addN_cn (by decide), if_pos rfl]
  have sn : ∀ j i, ¬ (j = 1 ∧ 0 ≤ i ∧ i < 4) ∧ ¬ (3 ≤ j ∧ j < 7) → addN S 3 (pk32 l) j i = S j i := fun j i d => addN_ne (by decide) d
  obtain ⟨x1, x2, x3, x4, x5, x6, x7, x8⟩ := h
  refine ⟨⟨x1.fr (fun a b _ _ => sn _ _ (by omega)) (by rw [c3]; omega), x2.fr (cn _ (by decide)) (by rw [cn _ (by decide)]; omega) (by rw [c3]; omega) (fun s k _ _ => sn _ _ (by omega)), x3.fr (cn _ (by decide)) (cn _ (by decide)) (fun i t _ _ => ⟨sn _ _ (by omega), sn _ _ (by omega), sn _ _ (by omega)⟩), x4.fr (cn _ (by decide)) (cn _ (by decide)) (fun i t _ _ => sn _ _ (by omega)), x5.fr (cn _ (by decide)) (fun i t _ _ => sn _ _ (by omega)), ?_, x7.add hl (by decide) (fun i w hi => rfl), x8.fr (cn _ (by decide)) (fun k => ⟨sn _ _ (by omega), sn _ _ (by omega)⟩)⟩, sn _ _ (by omega)⟩
  unfold xTi; rw [sn _ _ (by omega)]; exact x6
theorem pX.road (h : pX S L) (hW : pW S) (hp : p ≤ N) {q d : Int} (hs : sRoad S T N p e = .inr (S', q, d)) : pX S' L ∧ S' 0 13 = S 0 13 := by
  obtain ⟨⟨a, q1, d1⟩, h1, hs⟩ := rb_inr hs
  have c1 := sOld_rg hW (by decide) h1
  obtain ⟨⟨a', q2, d2⟩, h2, hs⟩ := rb_inr (show rb (sOld S T N 3 q1 d1) (fun u => if a = u.1 then .inl (3, q1) else sRoad3 S T N a u.1 u.2.1 u.2.2) = .inr (S', q, d) from hs)
  have c3 := sOld_rg hW (by decide) h2
  have b0 := hW.1
  have b1 := hW.2.1
  have b2 := hW.2.2.1
  have b3 := hW.2.2.2.1
  have b4 := hW.2.2.2.2.1
  have hs : (if a = a' then .inl (3, q1) else sRoad3 S T N a a' q2 d2) = .inr (S', q, d) := hs
  split at hs
  · cases hs
  · next hne =>
    obtain ⟨⟨v, q3, d3⟩, h3, hs⟩ := rb_inr hs
    have c6 := l_num_lo h3
    cases hs
    show pX (addR S a a' v) L ∧ addR S a a' v 0 13 = S 0 13
    have ha : 0 ≤ a ∧ a < 8 := by omega
    have hb : 0 ≤ a' ∧ a' < 8 := by omega
    have sn : ∀ j i, ¬ (j = 1 ∧ i = 6) ∧ ¬ (37 ≤ j ∧ j < 45) → addR S a a' v j i = S j i := fun j i hn => addR_ne ha hb hn
    have cn : ∀ i, ¬ i = 6 → addR S a a' v 1 i = S 1 i := fun i hi => sn _ _ (by omega)
    obtain ⟨x1, x2, x3, x4, x5, x6, x7, x8⟩ := h
    refine ⟨⟨?_, x2.fr (cn _ (by decide)) (by rw [cn _ (by decide)]; omega) (by rw [cn _ (by decide)]; omega) (fun s k _ _ => sn _ _ (by omega)), x3.fr (cn _ (by decide)) (cn _ (by decide)) (fun i t _ _ => ⟨sn _ _ (by omega), sn _ _ (by omega), sn _ _ (by omega)⟩), x4.fr (cn _ (by decide)) (cn _ (by decide)) (fun i t _ _ => sn _ _ (by omega)), x5.fr (cn _ (by decide)) (fun i t _ _ => sn _ _ (by omega)), ?_, x7.fr (fun i _ _ => cn _ (by omega)) (fun i w _ _ => sn _ _ (by omega)), x8.fr (cn _ (by decide)) (fun k => ⟨sn _ _ (by omega), sn _ _ (by omega)⟩)⟩, sn _ _ (by omega)⟩
    · intro x y x0 x1' y0 y1
      have g := x1 x y x0 x1' y0 y1
      rw [addR_at ha hb ⟨x0, x1'⟩, addR_at ha hb ⟨y0, y1⟩, addR_at ha hb ⟨x0, x1'⟩, cn _ (by decide)]
      refine ⟨?_, ?_, fun hn ho => ?_⟩
      · by_cases hh : (x = a ∧ y = a') ∨ (x = a' ∧ y = a)
        · rw [if_pos hh, if_pos (by omega)]
        · rw [if_neg hh, if_neg (by omega)]; exact g.1
      · rw [if_neg (by omega)]; exact g.2.1
      · rw [if_neg (by omega)]; exact g.2.2 hn ho
    · unfold xTi; rw [sn _ _ (by omega)]; exact x6
theorem pX.seen (h : pX S L) (hW : pW S) (hr : S 1 4 < 24) (hp : p ≤ N) {q d : Int} (hs : sSeen S T N p e = .inr (S', q, d)) : pX S' L ∧ S' 0 13 = S 0 13 := by
  have b0 := hW.1
  have b1 := hW.2.1
  have b2 := hW.2.2.1
  have b3 := hW.2.2.2.1
  have b4 := hW.2.2.2.2.1
  obtain ⟨⟨a, q1, d1⟩, h1, hs⟩ := rb_inr hs
  have ca := sOld_rg hW (by decide) h1
  obtain ⟨⟨q2, d2⟩, h2, hs⟩ := rb_inr (show rb (l_word T N 8 q1 d1) (fun u => sSeen3 T N (S 1 4) (q_up S (46 + S 1 4) 0 a) u.1 u.2) = .inr (S', q, d) from hs)
  obtain ⟨⟨v, q3, d3⟩, h3, hs⟩ := rb_inr (show rb (sOld (q_up S (46 + S 1 4) 0 a) T N 3 q2 d2) (fun s => sSeen4 T N (S 1 4) (q_up (q_up S (46 + S 1 4) 0 a) (46 + S 1 4) 1 s.1) s.2.1 s.2.2) = .inr (S', q, d) from hs)
  have cv := sOld_rg (hW.up (by omega)) (by decide) h3
  rw [q_up_ne (by omega)] at cv
  obtain ⟨⟨q4, d4⟩, h4, hs⟩ := rb_inr (show rb (l_word T N 9 q3 d3) (fun u => sSeen5 T N (S 1 4) (q_up (q_up S (46 + S 1 4) 0 a) (46 + S 1 4) 1 v) u.1 u.2) = .inr (S', q, d) from hs)
  obtain ⟨⟨S5, q5, d5⟩, h5, hs⟩ := rb_inr (show rb (sNum (q_up (q_up S (46 + S 1 4) 0 a) (46 + S 1 4) 1 v) T N (46 + S 1 4) 2 0 99 q4 d4) (fun s => sSeen6 T N (S 1 4) s.1 s.2.1 s.2.2) = .inr (S', q, d) from hs)
  obtain ⟨v2, hv2, rfl⟩ := sNum_in h5
  obtain ⟨⟨q6, d6⟩, h6, hs⟩ := rb_inr (show rb (l_word T N 10 q5 d5) (fun u => sSeen7 T N (S 1 4) (q_up (q_up (q_up S (46 + S 1 4) 0 a) (46 + S 1 4) 1 v) (46 + S 1 4) 2 v2) u.1 u.2) = .inr (S', q, d) from hs)
  obtain ⟨⟨S7, q7, d7⟩, h7, hs⟩ := rb_inr (show rb (sNum (q_up (q_up (q_up S (46 + S 1 4) 0 a) (46 + S 1 4) 1 v) (46 + S 1 4) 2 v2) T N (46 + S 1 4) 3 0 100 q6 d6) (fun s => sSeen8 T N (S 1 4) s.1 s.2.1 s.2.2) = .inr (S', q, d) from hs)
  obtain ⟨v3, hv3, rfl⟩ := sNum_in h7
  have hs : sSeen8 T N (S 1 4) (q_up (q_up (q_up (q_up S (46 + S 1 4) 0 a) (46 + S 1 4) 1 v) (46 + S 1 4) 2 v2) (46 + S 1 4) 3 v3) q7 d7 = .inr (S', q, d) := hs
  have key : ∃ r, (r = 0 ∨ r = 1) ∧ S' = q_up (q_up (q_up (q_up (q_up (q_up S (46 + S 1 4) 0 a) (46 + S 1 4) 1 v) (46 + S 1 4) 2 v2) (46 + S 1 4) 3 v3) (46 + S 1 4) 4 r) 1 4 (S 1 4 + 1) := by
    unfold sSeen8 at hs
    split at hs
    · cases hs; exact ⟨1, Or.inr rfl, rfl⟩
    · obtain ⟨u, hu, hs⟩ := rb_inr hs
      cases hs; exact ⟨0, Or.inl rfl, rfl⟩
  obtain ⟨r, hr01, hS⟩ := key
  have sn : ∀ j i, ¬ (j = 1 ∧ i = 4) → ¬ j = 46 + S 1 4 → S' j i = S j i := fun j i h1 h2 => by
    rw [hS, q_up_ne (by omega), q_up_ne (by omega), q_up_ne (by omega), q_up_ne (by omega), q_up_ne (by omega), q_up_ne (by omega)]
  have c4 : S' 1 4 = S 1 4 + 1 := by rw [hS, q_up_eq]
  have w0 : S' (46 + S 1 4) 0 = a := by rw [hS, q_up_ne (by omega), q_up_ne (by omega), q_up_ne (by omega), q_up_ne (by omega), q_up_ne (by omega), q_up_eq]
  have w1 : S' (46 + S 1 4) 1 = v := by rw [hS, q_up_ne (by omega), q_up_ne (by omega), q_up_ne (by omega), q_up_ne (by omega), q_up_eq]
  have w2 : S' (46 + S 1 4) 2 = v2 := by rw [hS, q_up_ne (by omega), q_up_ne (by omega), q_up_ne (by omega), q_up_eq]
  have w3 : S' (46 + S 1 4) 3 = v3 := by rw [hS, q_up_ne (by omega), q_up_ne (by omega), q_up_eq]
  have w4 : S' (46 + S 1 4) 4 = r := by rw [hS, q_up_ne (by omega), q_up_eq]
  have cn : ∀ i, ¬ i = 4 → S' 1 i = S 1 i := fun i hi => sn _ _ (by omega) (by omega)
  clear hS
  obtain ⟨x1, x2, x3, x4, x5, x6, x7, x8⟩ := h
  refine ⟨⟨x1.fr (fun a b _ _ => sn _ _ (by omega) (by omega)) (by rw [cn _ (by decide)]; omega), ?_, x3.fr (cn _ (by decide)) (cn _ (by decide)) (fun i t _ _ => ⟨sn _ _ (by omega) (by omega), sn _ _ (by omega) (by omega), sn _ _ (by omega) (by omega)⟩), x4.fr (cn _ (by decide)) (cn _ (by decide)) (fun i t _ _ => sn _ _ (by omega) (by omega)), x5.fr (cn _ (by decide)) (fun i t _ _ => sn _ _ (by omega) (by omega)), ?_, x7.fr (fun i _ _ => cn _ (by omega)) (fun i w _ _ => sn _ _ (by omega) (by omega)), x8.fr (cn _ (by decide)) (fun k => ⟨sn _ _ (by omega) (by omega), sn _ _ (by omega) (by omega)⟩)⟩, sn _ _ (by omega) (by omega)⟩
  · intro s s0 s1
    rw [c4] at s1
    rw [cn 1 (by decide), cn 3 (by decide)]
    by_cases es : s = S 1 4
    · rw [es, w0, w1, w2, w3, w4]; exact ⟨ca, cv, hv2, hv3, by omega⟩
    · rw [sn _ _ (by omega) (by omega), sn _ _ (by omega) (by omega), sn _ _ (by omega) (by omega), sn _ _ (by omega) (by omega), sn _ _ (by omega) (by omega)]; exact x2 s s0 (by omega)
  · unfold xTi; rw [sn _ _ (by omega) (by omega)]; exact x6
theorem pX.num (h : pX S L) {j x : Int} (hj : j = 13 ∨ (j = 14 ∧ 0 ≤ x ∧ x ≤ 100)) : pX (q_up S 0 j x) L := by
  have sn : ∀ j' i, ¬ j' = 0 → q_up S 0 j x j' i = S j' i := fun j' i h1 => q_up_ne (by omega)
  obtain ⟨x1, x2, x3, x4, x5, x6, x7, x8⟩ := h
  refine ⟨x1.fr (fun a b _ _ => sn _ _ (by omega)) (by rw [sn _ _ (by decide)]; omega), ?_, ?_, ?_, ?_, ?_, x7.fr (fun i _ _ => sn _ _ (by decide)) (fun i w _ _ => sn _ _ (by omega)), x8.fr (sn _ _ (by decide)) (fun k => ⟨sn _ _ (by decide), sn _ _ (by decide)⟩)⟩
  · exact x2.fr (sn _ _ (by decide)) (by rw [sn _ _ (by decide)]; omega) (by rw [sn _ _ (by decide)]; omega) (fun s k _ _ => sn _ _ (by omega))
  · exact x3.fr (sn _ _ (by decide)) (sn _ _ (by decide)) (fun i t _ _ => ⟨sn _ _ (by omega), sn _ _ (by omega), sn _ _ (by omega)⟩)
  · exact x4.fr (sn _ _ (by decide)) (sn _ _ (by decide)) (fun i t _ _ => sn _ _ (by omega))
  · exact x5.fr (sn _ _ (by decide)) (fun i t _ _ => sn _ _ (by omega))
  · unfold xTi
    rcases hj with e1 | e1
    · rw [e1, q_up_ne (by omega)]; exact x6
    · rw [e1.1, q_up_eq]; exact e1.2
theorem pX.rule (h : pX S L) (hW : pW S) (hr : S 1 5 < 6) (h0 : 0 ≤ p) (hp : p ≤ N) (hN : N ≤ 1600) {L' : List Int} {q d : Int} (hs : sRule S T N L p e = .inr (S', L', q, d)) : pX S' L' ∧ S' 0 13 = S 0 13 := by
  have b0 := hW.1
  have b1 := hW.2.1
  have b2 := hW.2.2.1
  have b4 := hW.2.2.2.2.1
  have b5 := hW.2.2.2.2.2.1
  obtain ⟨⟨c1, q1, d1⟩, h1, hs⟩ := rb_inr hs
  have r1 : rd T N 20000 3 0 p e = some (.inr (c1, q1, d1)) := by rw [rq_ok hN (by decide) h0 hp, h1]
  have l1 := rd_len 20000 3 0 _ _ c1 q1 d1 hp r1
  have w1 : wfV (3 + 3 * (6 - 0)) bd6 c1 := rd_wf 20000 3 0 _ _ _ _ _ (by decide) r1
  obtain ⟨⟨q2, d2⟩, h2, hs⟩ := rb_inr (show rb (l_word T N 14 q1 d1) (fun u => sRu3 T N (q_up S 106 (S 1 5) L.length) (L ++ c1) u.1 u.2) = .inr (S', L', q, d) from hs)
  have l2 := l_word_ge (q := 0) (d := 0) (by decide) l1.2.1 h2
  simp only at l2
  obtain ⟨⟨c3, q3, d3⟩, h3, hs⟩ := rb_inr (show rb (rq T N 8 q2 d2) (fun s => sRu4 (q_up (q_up S 106 (S 1 5) L.length) 107 (q_up S 106 (S 1 5) L.length 1 5) (L ++ c1).length) ((L ++ c1) ++ s.1) s.2.1 s.2.2) = .inr (S', L', q, d) from hs)
  have r3 : rd T N 20000 8 0 q2 d2 = some (.inr (c3, q3, d3)) := by rw [rq_ok hN (by decide) (by omega) l2.2, h3]
  have w3 : wfV (6 + 3 * (6 - 0)) is01 c3 := rd_wf 20000 8 0 _ _ _ _ _ (by decide) r3
  have e1 : q_up S 106 (S 1 5) L.length 1 5 = S 1 5 := q_up_ne (by omega)
  rw [e1] at hs
  have e2 : q_up (q_up S 106 (S 1 5) L.length) 107 (S 1 5) (L ++ c1).length 1 5 = S 1 5 := by rw [q_up_ne (by omega), e1]
  have hs : (.inr (q_up (q_up (q_up (q_up S 106 (S 1 5) L.length) 107 (S 1 5) (L ++ c1).length) 106 (q_up (q_up S 106 (S 1 5) L.length) 107 (S 1 5) (L ++ c1).length 1 5 + 1) ((L ++ c1) ++ c3).length) 1 5 (q_up (q_up S 106 (S 1 5) L.length) 107 (S 1 5) (L ++ c1).length 1 5 + 1), (L ++ c1) ++ c3, q3, d3) : q_PR) = .inr (S', L', q, d) := hs
  rw [e2] at hs
  have hS : S' = q_up (q_up (q_up (q_up S 106 (S 1 5) L.length) 107 (S 1 5) (L ++ c1).length) 106 (S 1 5 + 1) ((L ++ c1) ++ c3).length) 1 5 (S 1 5 + 1) := by cases hs; rfl
  have hL' : L' = (L ++ c1) ++ c3 := by cases hs; rfl
  have sn : ∀ j i, ¬ j = 106 → ¬ j = 107 → ¬ (j = 1 ∧ i = 5) → S' j i = S j i := fun j i h1 h2 h3 => by
    rw [hS, q_up_ne (by omega), q_up_ne (by omega), q_up_ne (by omega), q_up_ne (by omega)]
  have s6 : ∀ k, S' 106 k = if k = S 1 5 + 1 then (L'.length : Int) else if k = S 1 5 then (L.length : Int) else S 106 k := fun k => by
    rw [hS, hL', q_up_ne (by omega)]
    by_cases ek : k = S 1 5 + 1
    · rw [ek, if_pos rfl, q_up_eq]
    · rw [if_neg ek, q_up_ne (by omega), q_up_ne (by omega)]
      by_cases ek2 : k = S 1 5
      · rw [ek2, if_pos rfl, q_up_eq]
      · rw [if_neg ek2, q_up_ne (by omega)]
  have s7 : ∀ k, S' 107 k = if k = S 1 5 then ((L ++ c1).length : Int) else S 107 k := fun k => by
    rw [hS, q_up_ne (by omega), q_up_ne (by omega)]
    by_cases ek : k = S 1 5
    · rw [ek, if_pos rfl, q_up_eq]
    · rw [if_neg ek, q_up_ne (by omega), q_up_ne (by omega)]
  have c5 : S' 1 5 = S 1 5 + 1 := by rw [hS, q_up_eq]
  have cn : ∀ i, ¬ i = 5 → S' 1 i = S 1 i := fun i hi => sn _ _ (by omega) (by omega) (by omega)
  clear hS
  obtain ⟨x1, x2, x3, x4, x5, x6, x7, x8⟩ := h
  refine ⟨⟨x1.fr (fun a b _ _ => sn _ _ (by omega) (by omega) (by omega)) (by rw [cn _ (by decide)]; omega), x2.fr (cn _ (by decide)) (by rw [cn _ (by decide)]; omega) (by rw [cn _ (by decide)]; omega) (fun s k _ _ => sn _ _ (by omega) (by omega) (by omega)), x3.fr (cn _ (by decide)) (cn _ (by decide)) (fun i t _ _ => ⟨sn _ _ (by omega) (by omega) (by omega), sn _ _ (by omega) (by omega) (by omega), sn _ _ (by omega) (by omega) (by omega)⟩), x4.fr (cn _ (by decide)) (cn _ (by decide)) (fun i t _ _ => sn _ _ (by omega) (by omega) (by omega)), x5.fr (cn _ (by decide)) (fun i t _ _ => sn _ _ (by omega) (by omega) (by omega)), ?_, x7.fr (fun i _ _ => cn _ (by omega)) (fun i w _ _ => sn _ _ (by omega) (by omega) (by omega)), ?_, ?_⟩, sn _ _ (by omega) (by omega) (by omega)⟩
  · unfold xTi; rw [sn _ _ (by omega) (by omega) (by omega)]; exact x6
  · intro r r0 r1
    rw [c5] at r1
    rw [s6, s7, s6]
    by_cases er : r = S 1 5
    · refine ⟨L, c1, c3, [], by rw [hL', List.append_nil, List.append_assoc], ?_, ?_, ?_, w1.mono (by omega), w3.mono (by omega)⟩
      · rw [if_neg (by omega), if_pos er]
      · rw [if_pos er, List.length_append]; push_cast; rfl
      · rw [if_pos (by omega), hL', List.length_append, List.length_append]; push_cast; rfl
    · obtain ⟨a, u1, u2, z, g1, g2, g3, g4, g5, g6⟩ := x8.1 r r0 (by omega)
      refine ⟨a, u1, u2, z ++ (c1 ++ c3), ?_, ?_, ?_, ?_, g5, g6⟩
      · rw [hL', g1]; simp only [List.append_assoc]
      · rw [if_neg (by omega), if_neg er]; exact g2
      · rw [if_neg er]; exact g3
      · rw [if_neg (by omega)]
        by_cases er2 : r + 1 = S 1 5
        · rw [if_pos er2, ← x8.2 (by omega), ← er2]; exact g4
        · rw [if_neg er2]; exact g4
  · intro _; rw [c5, s6, if_pos rfl]
end INV
