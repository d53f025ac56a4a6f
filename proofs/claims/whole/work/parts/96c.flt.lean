/-! where faults lie: within the text -/
def fl0 {α : Type} (N : Int) (r : q_R α) : Prop := ∀ e : Int × Int, r = .inl e → 0 ≤ e.2 ∧ e.2 ≤ N
section FLT
variable {T : Int → Int} {N p e : Int} {S : q_F} {L : List Int}
theorem fl0.rb {α β : Type} {x : q_R α} {k : α → q_R β} (h : fl0 N x) (hk : ∀ a, x = .inr a → fl0 N (k a)) : fl0 N (rb x k) := fun e he => by
  cases x with
  | inl e0 => cases he; exact h _ rfl
  | inr a => exact hk a rfl e he
theorem fl0.in {α : Type} {a : α} : fl0 N (.inr a : q_R α) := fun e he => by cases he
theorem fl0.at {α : Type} {k w : Int} (hw : 0 ≤ w ∧ w ≤ N) : fl0 N (.inl (k, w) : q_R α) := fun e he => by cases he; exact hw
theorem fl_sign {c : Int} (hp : 0 ≤ p ∧ p ≤ N) : fl0 N (l_sign T N c p e) := by
  unfold l_sign; split
  · exact fl0.in
  · exact fl0.at hp
theorem fl_word {c : Int} (hp : 0 ≤ p ∧ p ≤ N) : fl0 N (l_word T N c p e) := by
  unfold l_word; split
  · exact fl0.in
  · exact fl0.at hp
theorem fl_num {lo hi : Int} (hp : 0 ≤ p ∧ p ≤ N) : fl0 N (l_num T N lo hi p e) := by
  have h1 := de_rg (T := T) hp.2
  unfold l_num; split
  · split
    · split
      · exact fl0.in
      · exact fl0.at hp
    · exact fl0.at (by omega)
  · exact fl0.at hp
theorem fl_name (hp : 0 ≤ p ∧ p ≤ N) : fl0 N (l_name T N p e) := by
  have h1 := le_rg (T := T) hp.2
  unfold l_name; split
  · split
    · exact fl0.in
    · exact fl0.at (by omega)
  · exact fl0.at hp
theorem fl_sNum {j k lo hi : Int} (hp : 0 ≤ p ∧ p ≤ N) : fl0 N (sNum S T N j k lo hi p e) := by
  unfold sNum; exact (fl_num hp).rb (fun a _ => fl0.in)
theorem fl_sNew {k : Int} (hp : 0 ≤ p ∧ p ≤ N) : fl0 N (sNew S T N k p e) := by
  unfold sNew; refine (fl_name hp).rb (fun a _ => ?_)
  split
  · exact fl0.at hp
  · exact fl0.in
theorem fl_sOld {k : Int} (hp : 0 ≤ p ∧ p ≤ N) : fl0 N (sOld S T N k p e) := by
  unfold sOld; refine (fl_name hp).rb (fun a _ => ?_)
  split
  · exact fl0.at hp
  · exact fl0.in
theorem fl_sFor {j hi : Int} : ∀ (m : Nat) (S : q_F) (k p e : Int), 0 ≤ p ∧ p ≤ N → fl0 N (sFor T N j hi m S k p e) := by
  intro m
  induction m with
  | zero => intro S k p e _; exact fl0.in
  | succ m ih =>
    intro S k p e hp
    show fl0 N (rb (sNum S T N j k 0 hi p e) (fun s => sFor T N j hi m s.1 (k + 1) s.2.1 s.2.2))
    exact (fl_sNum hp).rb (fun a ha => ih _ _ _ _ (by have := sNum_ge (S' := a.1) (q := a.2.1) (d := a.2.2) hp.2 ha; omega))
theorem fl_rd (hN : 0 ≤ N) : ∀ (n mode : Nat) (o p e : Int) (e0 : Int × Int), 0 ≤ p ∧ p ≤ N → rd T N n mode o p e = some (.inl e0) → 0 ≤ e0.2 ∧ e0.2 ≤ N := by
  intro n
  induction n with
  | zero => intro mode o p e e0 _ h; unfold rd at h; cases h
  | succ n ih =>
    intro mode o p e e0 hp h
    have obf : ∀ (x : q_O) (k : List Int → Int → Int → q_O), (∀ e1, x = some (.inl e1) → 0 ≤ e1.2 ∧ e1.2 ≤ N) → (∀ c q r, x = some (.inr (c, q, r)) → k c q r = some (.inl e0) → 0 ≤ e0.2 ∧ e0.2 ≤ N) → ob x k = some (.inl e0) → 0 ≤ e0.2 ∧ e0.2 ≤ N := by
      intro x k h1 h2 hx
      match x, h1, h2, hx with
      | none, _, _, hx => cases hx
      | some (.inl e1), h1, _, hx => cases hx; exact h1 _ rfl
      | some (.inr (c, q, r)), _, h2, hx => exact h2 c q r rfl hx
    have osf : ∀ (c q r : Int) (k : Int → Int → q_O), 0 ≤ q ∧ q ≤ N → (∀ q2 r2, l_sign T N c q r = .inr (q2, r2) → k q2 r2 = some (.inl e0) → 0 ≤ e0.2 ∧ e0.2 ≤ N) → os (l_sign T N c q r) k = some (.inl e0) → 0 ≤ e0.2 ∧ e0.2 ≤ N := by
      intro c q r k hq h2 hx
      cases hs : l_sign T N c q r with
      | inl e1 => rw [hs] at hx; cases hx; exact fl_sign (e := r) hq _ hs
      | inr s => rw [hs] at hx; exact h2 s.1 s.2 hs hx
    have lw : ∀ w : Int, 0 ≤ w ∧ w ≤ N → ∀ k : Int, (some (.inl (k, w)) : q_O) = some (.inl e0) → 0 ≤ e0.2 ∧ e0.2 ≤ N := fun w hw k hx => by cases hx; exact hw
    have no : ∀ (s : List Int × Int × Int), (some (.inr s) : q_O) = some (.inl e0) → 0 ≤ e0.2 ∧ e0.2 ≤ N := fun s hx => by cases hx
    have len : ∀ (mode : Nat) (o p e : Int) (c : List Int) (q r : Int), 0 ≤ p ∧ p ≤ N → rd T N n mode o p e = some (.inr (c, q, r)) → 0 ≤ q ∧ q ≤ N := fun mode o p e c q r hp hx => by have := rd_len n mode o p e c q r hp.2 hx; omega
    have wge : ¬ wd T N p e = -1 → 0 ≤ sk T N (le T N p) ∧ sk T N (le T N p) ≤ N := fun hw => by have := wd_ge (T := T) (e := e) hp.2 hw; omega
    have sge : ∀ {q c : Int}, 0 ≤ q → 0 ≤ c → lk T N q = c → 0 ≤ sk T N (q + 1) ∧ sk T N (q + 1) ≤ N := fun {q c} q0 hc hl => by
      have h1 := lk_of hc hl
      have h2 := sk_ge (T := T) h1.1
      omega
    have two : ∀ (m1 m2 : Nat) (p e : Int) (g : List Int → List Int → List Int), 0 ≤ p ∧ p ≤ N → ob (rd T N n m1 o p e) (fun c q r => ob (rd T N n m2 o q r) (fun c2 q r => some (.inr (g c c2, q, r)))) = some (.inl e0) → 0 ≤ e0.2 ∧ e0.2 ≤ N := by
      intro m1 m2 p e g hp hx
      exact obf _ _ (fun e1 h1 => ih _ _ _ _ _ hp h1) (fun c q r hc => obf _ _ (fun e1 h1 => ih _ _ _ _ _ (len _ _ _ _ _ _ _ hp hc) h1) (fun _ _ _ _ => no _)) hx
    match mode, h with
    | 0, h =>
      rw [rd_0] at h
      unfold rdPart at h
      split at h
      · unfold rdNum at h
        cases hn : l_num T N 0 9999 p e with
        | inl e1 => rw [hn] at h; cases h; exact fl_num hp _ hn
        | inr s => rw [hn] at h; cases h
      · split at h
        · next hl =>
          split at h
          · have g := sge hp.1 (by decide) hl
            exact obf _ _ (fun e1 h1 => ih _ _ _ _ _ g h1) (fun c q r hc => osf _ _ _ _ (len _ _ _ _ _ _ _ g hc) (fun _ _ _ => no _)) h
          · exact lw p hp _ h
        · split at h
          · exact no _ h
          · split at h
            · next hw =>
              have g := wge (by omega)
              split at h
              · next hl =>
                split at h
                · have g2 := sge g.1 (by decide) hl
                  exact obf _ _ (fun e1 h1 => ih _ _ _ _ _ g2 h1) (fun c q r hc => osf _ _ _ _ (len _ _ _ _ _ _ _ g2 hc) (fun q2 r2 hs => obf _ _ (fun e1 h1 => ih _ _ _ _ _ (by have := l_sign_some (by decide) hs; have := len _ _ _ _ _ _ _ g2 hc; omega) h1) (fun c3 q3 r3 hc3 => osf _ _ _ _ (len _ _ _ _ _ _ _ (by have := l_sign_some (by decide) hs; have := len _ _ _ _ _ _ _ g2 hc; omega) hc3) (fun _ _ _ => no _)))) h
                · exact lw _ g _ h
              · exact lw _ g _ h
            · exact lw p hp _ h
    | 1, h => rw [rd_1] at h; exact two 0 2 p e _ hp h
    | 2, h =>
      rw [rd_2] at h
      split at h
      · next hl =>
        have g : 0 ≤ sk T N (p + 1) ∧ sk T N (p + 1) ≤ N := by
          rcases hl with hl | hl
          · exact sge hp.1 (by decide) hl
          · exact sge hp.1 (by decide) hl
        exact two 0 2 _ _ _ g h
      · exact no _ h
    | 3, h => rw [rd_3] at h; exact two 1 4 p e _ hp h
    | 4, h =>
      rw [rd_4] at h
      split at h
      · next hl =>
        have g : 0 ≤ sk T N (p + 1) ∧ sk T N (p + 1) ≤ N := by
          rcases hl with hl | hl
          · exact sge hp.1 (by decide) hl
          · exact sge hp.1 (by decide) hl
        exact two 1 4 _ _ _ g h
      · exact no _ h
    | 5, h =>
      rw [rd_5] at h
      unfold rdFact at h
      split at h
      · next hw =>
        split at h
        · exact obf _ _ (fun e1 h1 => ih _ _ _ _ _ (wge (by omega)) h1) (fun _ _ _ _ => no _) h
        · exact lw p hp _ h
      · split at h
        · exact no _ h
        · split at h
          · next hl =>
            split at h
            · have g := sge hp.1 (by decide) hl
              exact obf _ _ (fun e1 h1 => ih _ _ _ _ _ g h1) (fun c q r hc => osf _ _ _ _ (len _ _ _ _ _ _ _ g hc) (fun _ _ _ => no _)) h
            · exact lw p hp _ h
          · refine obf _ _ (fun e1 h1 => ih _ _ _ _ _ hp h1) (fun c q r hc hx => ?_) h
            have g := len _ _ _ _ _ _ _ hp hc
            split at hx
            · next hl =>
              have g2 : 0 ≤ sk T N (q + 1) ∧ sk T N (q + 1) ≤ N := by
                rcases hl with hl | hl | hl
                · exact sge g.1 (by decide) hl
                · exact sge g.1 (by decide) hl
                · exact sge g.1 (by decide) hl
              exact obf _ _ (fun e1 h1 => ih _ _ _ _ _ g2 h1) (fun _ _ _ _ => no _) hx
            · exact lw q g _ hx
    | 6, h => rw [rd_6] at h; exact two 5 7 p e _ hp h
    | 7, h =>
      rw [rd_7] at h
      split at h
      · exact two 5 7 _ _ _ (wge (by omega)) h
      · exact no _ h
    | 8, h => rw [rd_8] at h; exact two 6 9 p e _ hp h
    | 9, h =>
      rw [rd_9] at h
      split at h
      · exact two 6 9 _ _ _ (wge (by omega)) h
      · exact no _ h
    | m + 10, h => unfold rd at h; cases h
theorem fl_rq (hN : 0 ≤ N) {mode : Nat} (hp : 0 ≤ p ∧ p ≤ N) : fl0 N (rq T N mode p e) := fun e0 he => by
  unfold rq at he
  split at he
  · cases he; exact ⟨by decide, hN⟩
  · next r hr => rw [he] at hr; exact fl_rd hN _ _ _ _ _ _ hp hr
theorem fl_lf {r : q_R (q_F × Int × Int)} (h : fl0 N r) : fl0 N (lf L r) := fun e he => by
  cases r with
  | inl e0 => cases he; exact h _ rfl
  | inr s => cases he
theorem fl_tr : ∀ (m : Nat) (t : Int) (S : q_F) (p e : Int), 0 ≤ p ∧ p ≤ N → fl0 N (sTr T N m t S p e) := by
  intro m
  induction m with
  | zero => intro t S p e _; exact fl0.in
  | succ m ih =>
    intro t S p e hp
    have h1 : fl0 N (sTr1 T N t S p e) := by
      unfold sTr1
      refine (fl_sNew hp).rb (fun a ha => ?_)
      have g := sNew_ge (S' := a.1) (q := a.2.1) (d := a.2.2) hp.2 ha
      unfold sTr2
      refine (fl_sNum (by omega)).rb (fun b hb => ?_)
      have g2 := sNum_ge (S' := b.1) (q := b.2.1) (d := b.2.2) g.2 hb
      unfold sTr3
      exact fl_sNum (by omega)
    show fl0 N (rb (sTr1 T N t S p e) (fun s => if t < 5 ∧ lk T N s.2.1 = 44 then sTr T N m (t + 1) s.1 (sk T N (s.2.1 + 1)) s.2.2 else .inr s))
    refine h1.rb (fun a ha => ?_)
    have g : 0 ≤ a.2.1 ∧ a.2.1 ≤ N := by
      obtain ⟨⟨S2, q2, d2⟩, h2, h3⟩ := rb_inr (show rb (sNew S T N 0 p e) (fun s => sTr2 T N t s.1 s.2.1 s.2.2) = .inr a from ha)
      have g1 := sNew_ge hp.2 h2
      obtain ⟨⟨S3, q3, d3⟩, h4, h5⟩ := rb_inr (show rb (sNum S2 T N (8 + t) 0 0 100 q2 d2) (fun s => sTr3 T N t s.1 s.2.1 s.2.2) = .inr a from h3)
      have g2 := sNum_ge g1.2 h4
      have g3 := sNum_ge (S' := a.1) (q := a.2.1) (d := a.2.2) g2.2 (show sNum S3 T N (8 + t) 1 0 100 q3 d3 = .inr a from h5)
      omega
    split
    · next hl =>
      have h1 := lk_of (by decide) hl.2
      have h2 := sk_ge (T := T) h1.1
      exact ih _ _ _ _ (by omega)
    · exact fl0.in
theorem fl_stm (b : Bool) (hW : pW S) (hN : N ≤ 1600) (hp : 0 ≤ p ∧ p ≤ N) : fl0 N (sStm b S T N L p e) := by
  have wge : ¬ wd T N p e = -1 → 0 ≤ sk T N (le T N p) ∧ sk T N (le T N p) ≤ N := fun hw => by have := wd_ge (T := T) (e := e) hp.2 hw; omega
  have bg : ∀ (k : Int) (X : Int → Int → q_PR), fl0 N (X (sk T N (le T N p)) (le T N p)) → fl0 N (bgn S T N k p X) := fun k X hX => by
    unfold bgn; split
    · exact hX
    · exact fl0.at hp
  unfold sStm
  split
  · split
    · exact fl_lf (fl_tr _ _ _ _ _ (wge (by omega)))
    · exact fl0.at hp
  · split
    · have g := wge (by omega)
      refine bg _ _ (fl_lf ?_)
      unfold sPerson
      exact (fl_sNew g).rb (fun a ha => fl_sFor _ _ _ _ _ (by have := sNew_ge (S' := a.1) (q := a.2.1) (d := a.2.2) g.2 ha; omega))
    · split
      · have g := wge (by omega)
        refine bg _ _ (fl_lf ?_)
        unfold sShade
        refine (fl_sNew g).rb (fun a ha => ?_)
        have g1 := sNew_ge (S' := a.1) (q := a.2.1) (d := a.2.2) g.2 ha
        unfold sShade2
        refine (fl_word (by omega)).rb (fun b hb => ?_)
        have g2 := l_word_ge (q := 0) (d := 0) (by decide) g1.2 hb
        unfold sShade3
        refine (fl_sNum (by omega)).rb (fun c hc => ?_)
        have g3 := sNum_ge (S' := c.1) (q := c.2.1) (d := c.2.2) g2.2 hc
        unfold sShade4
        refine (fl_sFor _ _ _ _ _ (by omega)).rb (fun d hd => ?_)
        have g4 := sFor_ge _ _ d.1 _ _ _ d.2.1 d.2.2 g3.2 hd
        unfold sShade5
        refine (fl_word (by omega)).rb (fun e' he => ?_)
        have g5 := l_word_ge (q := 0) (d := 0) (by decide) g4.2 he
        unfold sShade6
        exact fl_sFor _ _ _ _ _ (by omega)
      · split
        · exact bg _ _ (fl_lf (fl_sNew (wge (by omega))))
        · split
          · have g := wge (by omega)
            refine bg _ _ (fl_lf ?_)
            unfold sRoad
            refine (fl_sOld g).rb (fun a ha => ?_)
            have g1 := sOld_ge (v := a.1) (q := a.2.1) (d := a.2.2) g.2 ha
            refine (fl_sOld (by omega)).rb (fun b hb => ?_)
            have g2 := sOld_ge (v := b.1) (q := b.2.1) (d := b.2.2) g1.2 hb
            split
            · exact fl0.at (by omega)
            · unfold sRoad3
              exact (fl_num (by omega)).rb (fun _ _ => fl0.in)
          · split
            · have g := wge (by omega)
              refine bg _ _ (fl_lf ?_)
              unfold sSeen
              refine (fl_sOld g).rb (fun a ha => ?_)
              have g1 := sOld_ge (v := a.1) (q := a.2.1) (d := a.2.2) g.2 ha
              unfold sSeen2
              refine (fl_word (by omega)).rb (fun b hb => ?_)
              have g2 := l_word_ge (q := 0) (d := 0) (by decide) g1.2 hb
              unfold sSeen3
              refine (fl_sOld (by omega)).rb (fun c hc => ?_)
              have g3 := sOld_ge (v := c.1) (q := c.2.1) (d := c.2.2) g2.2 hc
              unfold sSeen4
              refine (fl_word (by omega)).rb (fun d hd => ?_)
              have g4 := l_word_ge (q := 0) (d := 0) (by decide) g3.2 hd
              unfold sSeen5
              refine (fl_sNum (by omega)).rb (fun e' he => ?_)
              have g5 := sNum_ge (S' := e'.1) (q := e'.2.1) (d := e'.2.2) g4.2 he
              unfold sSeen6
              refine (fl_word (by omega)).rb (fun f' hf => ?_)
              have g6 := l_word_ge (q := 0) (d := 0) (by decide) g5.2 hf
              unfold sSeen7
              refine (fl_sNum (by omega)).rb (fun g' hg => ?_)
              have g7 := sNum_ge (S' := g'.1) (q := g'.2.1) (d := g'.2.2) g6.2 hg
              unfold sSeen8
              split
              · exact fl0.in
              · exact (fl_word (by omega)).rb (fun _ _ => fl0.in)
            · split
              · have g := wge (by omega)
                refine bg _ _ ?_
                unfold sRule
                refine (fl_rq (by omega) g).rb (fun a ha => ?_)
                have g1 := rd_len 20000 3 0 _ _ a.1 a.2.1 a.2.2 g.2 (by rw [rq_ok hN (by decide) g.1 g.2, ha])
                unfold sRu2
                refine (fl_word (by omega)).rb (fun b hb => ?_)
                have g2 := l_word_ge (q := 0) (d := 0) (by decide) g1.2.1 hb
                unfold sRu3
                refine (fl_rq (by omega) (by omega)).rb (fun c hc => ?_)
                unfold sRu4
                exact fl0.in
              · split
                · refine fl_lf ?_
                  unfold sTithe
                  exact fl_sNum (wge (by omega))
                · exact fl0.at hp
theorem fl_loop (hN : N ≤ 1600) : ∀ (m : Nat) (S : q_F) (L : List Int) (p e : Int), pW S → (L.length : Int) ≤ p → 0 ≤ p ∧ p ≤ N → fl0 N (sLoop T N m S L p e) := by
  intro m
  induction m with
  | zero =>
    intro S L p e _ _ hp
    show fl0 N (if lk T N p = -1 then .inr (S, L, p, e) else .inl (5, p) : q_PR)
    split
    · exact fl0.in
    · exact fl0.at hp
  | succ m ih =>
    intro S L p e hW hL hp
    show fl0 N (if lk T N p = -1 then .inr (S, L, p, e) else rb (sStm false S T N L p e) (fun s => rb (l_sign T N 59 s.2.2.1 s.2.2.2) (fun u => sLoop T N m (q_up s.1 0 13 (s.1 0 13 + 1)) s.2.1 u.1 u.2)) : q_PR)
    split
    · exact fl0.in
    · refine (fl_stm false hW hN hp).rb (fun s hs => ?_)
      have k1 := sStm_ok false hW (fun h => by cases h) hp.1 hp.2 hN hL (S' := s.1) (L' := s.2.1) (q := s.2.2.1) (d := s.2.2.2) hs
      refine (fl_sign (by omega)).rb (fun u hu => ?_)
      have k3 := l_sign_some (q := u.1) (r := u.2) (by decide) hu
      exact ih _ _ _ _ (k1.1.up2 (Or.inl rfl)) (by omega) (by omega)
theorem fl_text (h0 : 0 ≤ N) (hN : N ≤ 1600) (S : q_F) : fl0 N (sText T N S) := by
  have hsk := sk_rg (T := T) (N := N) (p := 0) h0
  have c1 : clrS S 1 0 = 0 := by unfold clrS; rw [if_neg (by omega), if_pos (by decide)]
  unfold sText
  refine (fl_stm true (pW_clr S) hN (by omega)).rb (fun s hs => ?_)
  have k1 := sStm_ok true (pW_clr S) (fun _ => c1) (by omega) hsk.2 hN (by show (0 : Int) ≤ _; omega) (S' := s.1) (L' := s.2.1) (q := s.2.2.1) (d := s.2.2.2) hs
  refine (fl_sign (by omega)).rb (fun u hu => ?_)
  have k3 := l_sign_some (q := u.1) (r := u.2) (by decide) hu
  exact fl_loop hN _ _ _ _ _ (k1.1.up2 (Or.inl rfl)) (by omega) (by omega)
end FLT
