/-! the class: what one shade makes of each set -/
section HS9B
variable {D : q_D} {f f' : q_F} {A : q_As} {g h : Int}
theorem mB_nbit (p : Int → Bool) {i : Int} (h : 0 ≤ i ∧ i < 31) : q_and (q_shr (q_xor (mB p) (-1)) i) 1 = if p i then 0 else 1 := by
  obtain ⟨n, rfl⟩ := Int.eq_ofNat_of_zero_le h.1
  have e1 : Int32.ofInt (q_shr (q_xor (mB p) (-1)) n) = ⟨⟨(bv p ^^^ BitVec.allOnes 32).sshiftRight n⟩⟩ := by
    unfold q_shr
    rw [Int32.ofInt_toInt, mB_not]
    apply Int32.toBitVec_inj.mp
    rw [Int32.toBitVec_shiftRight, (mB_sh5 n (by omega)).1]
    show (bv p ^^^ BitVec.allOnes 32).sshiftRight' _ = _
    rw [BitVec.sshiftRight', BitVec.toNat_ofNat, Nat.mod_eq_of_lt (by omega)]
    rfl
  unfold q_and
  rw [e1]
  have e2 : ((⟨⟨(bv p ^^^ BitVec.allOnes 32).sshiftRight n⟩⟩ : Int32) &&& Int32.ofInt 1).toBitVec = if p n then 0#32 else 1#32 := by
    show (bv p ^^^ BitVec.allOnes 32).sshiftRight n &&& 1#32 = _
    apply BitVec.eq_of_getLsbD_eq
    intro j hj
    rw [BitVec.getLsbD_and, BitVec.getLsbD_one, BitVec.getLsbD_sshiftRight, BitVec.getLsbD_xor, BitVec.getLsbD_allOnes, bv_get]
    by_cases e : j = 0
    · subst e
      rw [if_pos (by omega)]
      have hn : n < 31 := by omega
      have hn2 : n < 32 := by omega
      cases hp : p n <;> simp [hp, hn, hn2]
    · cases hp : p n <;> simp [e]
  show (((⟨⟨(bv p ^^^ BitVec.allOnes 32).sshiftRight n⟩⟩ : Int32) &&& Int32.ofInt 1).toBitVec).toInt = _
  rw [e2]
  cases p n <;> rfl
theorem p2_rg {k : Nat} (h : k ≤ 8) : (0 : Int) < 2 ^ k ∧ (2 : Int) ^ k ≤ 256 := by
  have : ∀ k : Nat, k < 9 → (0 : Int) < 2 ^ k ∧ (2 : Int) ^ k ≤ 256 := by decide +kernel
  exact this k (by omega)
theorem p2_s (k : Nat) : (2 : Int) ^ (k + 1) = 2 ^ k + 2 ^ k := by rw [Int.pow_succ]; omega
theorem wt_rg (hF : Wf A) {c : Int → Int} {w b : Int} {k : Nat} (hb : 0 ≤ b ∧ b < A 0 2 0) (hc : 0 ≤ c k ∧ c k < A 0 4 0) : ∃ v, wtS A c w b k = some v ∧ 0 ≤ v ∧ v ≤ 78125000 := by
  have hn := hF.nn
  have h9 := (hF.1.2.2.2.1 b (c k) hb.1 hb.2 hc.1 hc.2).2
  unfold wtS
  by_cases e : w = 0
  · rw [if_pos e]; exact ⟨0, rfl, by decide, by decide⟩
  · rw [if_neg e]
    have h5 : 0 ≤ (15625 : Int) / 5 ^ (k : Int).toNat ∧ (15625 : Int) / 5 ^ (k : Int).toNat ≤ 15625 := ⟨Int.ediv_nonneg (by decide) (Int.le_of_lt (Int.pow_pos (by decide))), Int.ediv_le_self _ (by decide)⟩
    have h6 := q_mulb (m := 4) (n := 15625) (a := b) (b := (15625 : Int) / 5 ^ (k : Int).toNat) ⟨hb.1, by omega⟩ h5
    exact ⟨_, rfl, by omega, by omega⟩
theorem PCt_rg (hF : Wf A) {c : Int → Int} {l w b : Int} (hb : 0 ≤ b ∧ b < A 0 2 0) : ∀ (k : Nat) (o : Int → Bool), (∀ j : Int, 0 ≤ j → j < k → 0 ≤ c j ∧ c j < A 0 4 0) → PCt A c l w b k o = none ∨ ∃ v, PCt A c l w b k o = some v ∧ 0 ≤ v ∧ v ≤ 78125000 * k := by
  intro k
  induction k with
  | zero => intro o _; right; exact ⟨0, rfl, by decide, by decide⟩
  | succ k ih =>
    intro o hc
    have h1 := ih o (fun j a b => hc j a (by omega))
    unfold PCt at h1 ⊢
    unfold PC
    split
    · split
      · obtain ⟨v, e1, e2, e3⟩ := wt_rg hF (w := w) hb (hc k (by omega) (by omega))
        rcases h1 with h1 | ⟨u, u1, u2, u3⟩
        · left; rw [h1]; rfl
        · right; rw [u1, e1]; exact ⟨u + v, rfl, by omega, by omega⟩
      · left; rfl
    · rcases h1 with h1 | ⟨u, u1, u2, u3⟩
      · left; exact h1
      · right; exact ⟨u, u1, u2, by omega⟩
theorem ok_fillPart (hS : Cst g f A) (hF : Wf A) {c : Int → Int} {n : Nat} (hc : q_cho f A c n) {sh l w : Int} (hsh : 0 ≤ sh ∧ sh < A 0 2 0) (hl : -2147483648 ≤ l ∧ l < 2147483648) (hw : w = 0 ∨ w = 1) : OkV D m_cr_fillPart [vr D 45, vr D g, vr D 10, vi sh, vi l, vi w] (Zg g h) f (fun f' => (∀ j i, ¬ j = 49 → f' j i = f j i) ∧ ∀ x, 0 ≤ x → x < 2 ^ n → f' 49 x = enc (PCt A c l w sh n (bt x))) := by
  have hn := hF.nn
  have hS' := hS
  obtain ⟨hg, hG, hH, hT⟩ := hS'
  have hg2 := q_G51 hg
  obtain ⟨n1, n8, n3, n4⟩ := hc
  have hc : q_cho f A c n := ⟨n1, n8, n3, n4⟩
  refine OkV_of (L0 := [vr D 45, vr D g, vr D 10, vi sh, vi l, vi w, vu, vu, vu, vu, vu, vu, vu, vu, vu]) mi_cr_fillPart rfl rfl (Nat.le_of_ble_eq_true rfl) (fun C hR => ?_)
  have inner : ∀ (m : Nat) (r : Int) (k : Nat) (p v s : Int) (a9 a14 : Value) (F : q_F), k < n → r + m = 2 ^ k → 0 ≤ r → (v = if okS A c l sh k then 1 else 0) → wtS A c w sh k = some s → (∀ j i, ¬ j = 49 → F j i = f j i) → (∀ x, 0 ≤ x → x < 2 ^ k → F 49 x = enc (PCt A c l w sh k (bt x))) → (∀ x, 0 ≤ x → x < r → F 49 (x + 2 ^ k) = enc (PCt A c l w sh (k + 1) (bt (x + 2 ^ k)))) → (∀ F' a14, (∀ j i, ¬ j = 49 → F' j i = f j i) → (∀ x, 0 ≤ x → x < 2 ^ (k + 1) → F' 49 x = enc (PCt A c l w sh (k + 1) (bt x))) → V D C m_cr_fillPart 210 [vr D 45, vr D g, vr D 10, vi sh, vi l, vi w, vi (mB (held A sh)), vi p, vi k, a9, vi v, vi s, vi (mB (fun j => decide (j < n) && !can A (c k) (c j))), vi (2 ^ k), a14] [] (Zg g h) F') → V D C m_cr_fillPart 133 [vr D 45, vr D g, vr D 10, vi sh, vi l, vi w, vi (mB (held A sh)), vi p, vi k, a9, vi v, vi s, vi (mB (fun j => decide (j < n) && !can A (c k) (c j))), vi r, a14] [] (Zg g h) F := by
    intro m
    induction m with
    | zero =>
      intro r k p v s a9 a14 F hk hm h0 hv hs hf hlo hhi K
      have h2 := p2_rg (k := k) (by omega)
      have hr : r = 2 ^ k := by omega
      subst hr
      refine V_iload_13 d_cr_fillPart_133 ?_
      refine V_iconst 1 d_cr_fillPart_135 ?_
      refine V_iload_8 d_cr_fillPart_136 ?_
      refine V_ishl d_cr_fillPart_138 ?_
      rw [q_shl1 (by omega)]
      refine V_icmp_ge 210 d_cr_fillPart_139 (by decide) (by omega) (by omega) (fun c139 => ?_) (fun c139 => by omega)
      refine K F _ hf (fun x x0 x1 => ?_)
      rw [p2_s] at x1
      by_cases e : x < 2 ^ k
      · rw [hlo x x0 e]
        unfold PCt
        rw [PC, bt_hi x0 e (by omega)]; rfl
      · have := hhi (x - 2 ^ k) (by omega) (by omega)
        rw [show x - 2 ^ k + 2 ^ k = x by omega] at this
        exact this
    | succ m ih =>
      intro r k p v s a9 a14 F hk hm h0 hv hs hf hlo hhi K
      have h2 := p2_rg (k := k) (by omega)
      have h22 := p2_rg (k := k + 1) (by omega)
      rw [p2_s] at h22
      have elo := hlo r h0 (by omega)
      have erg := PCt_rg hF (c := c) (l := l) (w := w) hsh k (bt r) (fun j a b => n4 j a (by omega))
      have hen : -1 ≤ enc (PCt A c l w sh k (bt r)) ∧ enc (PCt A c l w sh k (bt r)) ≤ 625000000 := by
        rcases erg with e | ⟨u, e, u1, u2⟩
        · rw [e]; decide
        · rw [e]; show -1 ≤ u ∧ u ≤ 625000000; omega
      have hand : q_and r (mB (fun j => decide (j < n) && !can A (c k) (c j))) = mB (fun j => bt r j && (decide (j < n) && !can A (c k) (c j))) := by
        conv => lhs; rw [← mB_bt2 h0 (by omega)]
        rw [mB_and]
      have hcl : mB (fun j => bt r j && (decide (j < n) && !can A (c k) (c j))) = 0 ↔ allI k 0 (fun j => !(bt (r + 2 ^ k) j && smS A c sh j k) || cmS A c k j) = true := by
        rw [mB_is0, allI_iff]
        have hsm : ∀ j, smS A c sh j k = true := fun j => by unfold smS; rw [if_neg (by omega)]
        constructor
        · intro hh j j0 j1
          have := hh j j0 (by omega)
          rw [bt_add h0 (by omega) j0, decide_eq_false (by omega), Bool.or_false, hsm, Bool.and_true]
          cases hb : bt r j
          · rfl
          · rw [hb, decide_eq_true (by omega)] at this
            unfold cmS; simpa using this
        · intro hh j j0 j1
          cases hb : bt r j
          · rfl
          · have hjk : j < k := by
              rcases Int.lt_or_le j k with e | e
              · exact e
              · rw [bt_hi (k := k) h0 (by omega) e] at hb; cases hb
            have := hh j j0 (by omega)
            rw [bt_add h0 (by omega) j0, hb, hsm] at this
            unfold cmS at this
            simp at this
            rw [this]; simp
      have hnew : PCt A c l w sh (k + 1) (bt (r + 2 ^ k)) = if okS A c l sh k && allI k 0 (fun j => !(bt (r + 2 ^ k) j && smS A c sh j k) || cmS A c k j) then tml (PCt A c l w sh k (bt r)) (some s) else none := by
        unfold PCt
        rw [PC, bt_add h0 (by omega) (by omega), decide_eq_true rfl, Bool.or_true, if_pos rfl, hs, PC_eq k (bt (r + 2 ^ k)) (bt r) (fun j j0 j1 => by rw [bt_add h0 (by omega) j0, decide_eq_false (by omega), Bool.or_false])]
      have fin : ∀ (y : Int) (a14 : Value), y = enc (PCt A c l w sh (k + 1) (bt (r + 2 ^ k))) → V D C m_cr_fillPart 133 [vr D 45, vr D g, vr D 10, vi sh, vi l, vi w, vi (mB (held A sh)), vi p, vi k, a9, vi v, vi s, vi (mB (fun j => decide (j < n) && !can A (c k) (c j))), vi (r + 1), a14] [] (Zg g h) (q_up F 49 (r + 2 ^ k) y) := by
        intro y a14 hy
        refine ih _ k p v s a9 a14 _ hk (by omega) (by omega) hv hs (fun j i hj => by rw [q_up_at hj]; exact hf j i hj) (fun x x0 x1 => by rw [q_up_ne (Or.inr (by omega))]; exact hlo x x0 x1) (fun x x0 x1 => ?_) K
        by_cases e : x = r
        · rw [q_up_is (by rw [e]), e]; exact hy
        · rw [q_up_ne (Or.inr (by omega))]; exact hhi x x0 (by omega)
      refine V_iload_13 d_cr_fillPart_133 ?_
      refine V_iconst 1 d_cr_fillPart_135 ?_
      refine V_iload_8 d_cr_fillPart_136 ?_
      refine V_ishl d_cr_fillPart_138 ?_
      rw [q_shl1 (by omega)]
      refine V_icmp_ge 210 d_cr_fillPart_139 (by decide) (by omega) (by omega) (fun c139 => by omega) (fun c139 => ?_)
      refine V_iload_10 d_cr_fillPart_142 ?_
      refine V_if_eq 170 d_cr_fillPart_144 (by decide) (by rw [hv]; split <;> decide) (fun c144 => ?_) (fun c144 => ?_)
      · skip
        have hno : okS A c l sh k = false := by
          cases ho : okS A c l sh k
          · rfl
          · rw [ho] at hv; simp at hv; omega
        refine V_iconst 0 d_cr_fillPart_170 ?_
        refine V_istore_14 d_cr_fillPart_171 rfl ?_
        refine V_aload_0 d_cr_fillPart_173 ?_
        refine V_getR d_cr_fillPart_174 fl_cr_21 is_cr r_cr_part ?_
        refine V_iload_13 d_cr_fillPart_177 ?_
        refine V_iconst 1 d_cr_fillPart_179 ?_
        refine V_iload_8 d_cr_fillPart_180 ?_
        refine V_ishl d_cr_fillPart_182 ?_
        refine V_ior d_cr_fillPart_183 ?_
        rw [q_or1 (by omega) h0 (by omega)]
        refine V_iload_14 d_cr_fillPart_184 ?_
        refine V_if_eq 202 d_cr_fillPart_186 (by decide) (by omega) (fun c186 => ?_) (fun c186 => by omega)
        refine V_iconst (-1) d_cr_fillPart_202 ?_
        refine V_iast d_cr_fillPart_203 is_cr_part (by omega) (by omega) ?_
        refine V_iinc_13 d_cr_fillPart_204 rfl ?_
        refine V_goto 133 d_cr_fillPart_207 (by decide) ?_
        refine fin _ _ ?_
        rw [hnew, hno]; rfl
      · skip
        have hyes : okS A c l sh k = true := by
          cases ho : okS A c l sh k
          · rw [ho] at hv; simp at hv; omega
          · rfl
        refine V_aload_0 d_cr_fillPart_147 ?_
        refine V_getR d_cr_fillPart_148 fl_cr_21 is_cr r_cr_part ?_
        refine V_iload_13 d_cr_fillPart_151 ?_
        refine V_iald d_cr_fillPart_153 is_cr_part (by omega) (by omega) ?_
        rw [elo]
        refine V_iconst (-1) d_cr_fillPart_154 ?_
        refine V_icmp_eq 170 d_cr_fillPart_155 (by decide) (by omega) (by omega) (fun c155 => ?_) (fun c155 => ?_)
        · skip
          refine V_iconst 0 d_cr_fillPart_170 ?_
          refine V_istore_14 d_cr_fillPart_171 rfl ?_
          refine V_aload_0 d_cr_fillPart_173 ?_
          refine V_getR d_cr_fillPart_174 fl_cr_21 is_cr r_cr_part ?_
          refine V_iload_13 d_cr_fillPart_177 ?_
          refine V_iconst 1 d_cr_fillPart_179 ?_
          refine V_iload_8 d_cr_fillPart_180 ?_
          refine V_ishl d_cr_fillPart_182 ?_
          refine V_ior d_cr_fillPart_183 ?_
          rw [q_or1 (by omega) h0 (by omega)]
          refine V_iload_14 d_cr_fillPart_184 ?_
          refine V_if_eq 202 d_cr_fillPart_186 (by decide) (by omega) (fun c186 => ?_) (fun c186 => by omega)
          refine V_iconst (-1) d_cr_fillPart_202 ?_
          refine V_iast d_cr_fillPart_203 is_cr_part (by omega) (by omega) ?_
          refine V_iinc_13 d_cr_fillPart_204 rfl ?_
          refine V_goto 133 d_cr_fillPart_207 (by decide) ?_
          refine fin _ _ ?_
          have : PCt A c l w sh k (bt r) = none := by
            rcases erg with e | ⟨u, e, u1, u2⟩
            · exact e
            · rw [e] at c155
              have : u = -1 := c155
              omega
          rw [hnew, this]; split <;> rfl
        · skip
          refine V_iload_13 d_cr_fillPart_158 ?_
          refine V_iload_12 d_cr_fillPart_160 ?_
          refine V_iand d_cr_fillPart_162 ?_
          rw [hand]
          refine V_if_ne 170 d_cr_fillPart_163 (by decide) (mB_rg2 _) (fun c163 => ?_) (fun c163 => ?_)
          · skip
            refine V_iconst 0 d_cr_fillPart_170 ?_
            refine V_istore_14 d_cr_fillPart_171 rfl ?_
            refine V_aload_0 d_cr_fillPart_173 ?_
            refine V_getR d_cr_fillPart_174 fl_cr_21 is_cr r_cr_part ?_
            refine V_iload_13 d_cr_fillPart_177 ?_
            refine V_iconst 1 d_cr_fillPart_179 ?_
            refine V_iload_8 d_cr_fillPart_180 ?_
            refine V_ishl d_cr_fillPart_182 ?_
            refine V_ior d_cr_fillPart_183 ?_
            rw [q_or1 (by omega) h0 (by omega)]
            refine V_iload_14 d_cr_fillPart_184 ?_
            refine V_if_eq 202 d_cr_fillPart_186 (by decide) (by omega) (fun c186 => ?_) (fun c186 => by omega)
            refine V_iconst (-1) d_cr_fillPart_202 ?_
            refine V_iast d_cr_fillPart_203 is_cr_part (by omega) (by omega) ?_
            refine V_iinc_13 d_cr_fillPart_204 rfl ?_
            refine V_goto 133 d_cr_fillPart_207 (by decide) ?_
            refine fin _ _ ?_
            have : ¬ allI k 0 (fun j => !(bt (r + 2 ^ k) j && smS A c sh j k) || cmS A c k j) = true := fun e => c163 (hcl.mpr e)
            rw [hnew, if_neg (by rw [Bool.and_eq_true]; exact fun e => this e.2)]; rfl
          · skip
            refine V_iconst 1 d_cr_fillPart_166 ?_
            refine V_goto 171 d_cr_fillPart_167 (by decide) ?_
            refine V_istore_14 d_cr_fillPart_171 rfl ?_
            refine V_aload_0 d_cr_fillPart_173 ?_
            refine V_getR d_cr_fillPart_174 fl_cr_21 is_cr r_cr_part ?_
            refine V_iload_13 d_cr_fillPart_177 ?_
            refine V_iconst 1 d_cr_fillPart_179 ?_
            refine V_iload_8 d_cr_fillPart_180 ?_
            refine V_ishl d_cr_fillPart_182 ?_
            refine V_ior d_cr_fillPart_183 ?_
            rw [q_or1 (by omega) h0 (by omega)]
            refine V_iload_14 d_cr_fillPart_184 ?_
            refine V_if_eq 202 d_cr_fillPart_186 (by decide) (by omega) (fun c186 => by omega) (fun c186 => ?_)
            refine V_aload_0 d_cr_fillPart_189 ?_
            refine V_getR d_cr_fillPart_190 fl_cr_21 is_cr r_cr_part ?_
            refine V_iload_13 d_cr_fillPart_193 ?_
            refine V_iald d_cr_fillPart_195 is_cr_part (by omega) (by omega) ?_
            rw [elo]
            refine V_iload_11 d_cr_fillPart_196 ?_
            refine V_iadd d_cr_fillPart_198 ?_
            refine V_goto 203 d_cr_fillPart_199 (by decide) ?_
            refine V_iast d_cr_fillPart_203 is_cr_part (by omega) (by omega) ?_
            refine V_iinc_13 d_cr_fillPart_204 rfl ?_
            refine V_goto 133 d_cr_fillPart_207 (by decide) ?_
            refine fin _ _ ?_
            rw [hnew, hyes, hcl.mp c163]
            rcases erg with e | ⟨u, e, u1, u2⟩
            · rw [e] at c155; exact absurd rfl c155
            · rw [e]; rfl
  have outer : ∀ (m k : Nat) (a9 a10 a11 a12 a13 a14 : Value) (F : q_F), k + m = n → (∀ j i, ¬ j = 49 → F j i = f j i) → (∀ x, 0 ≤ x → x < 2 ^ k → F 49 x = enc (PCt A c l w sh k (bt x))) → a9.category = 1 → a10.category = 1 → a11.category = 1 → a12.category = 1 → a13.category = 1 → V D C m_cr_fillPart 28 [vr D 45, vr D g, vr D 10, vi sh, vi l, vi w, vi (mB (held A sh)), vi (15625 / 5 ^ k), vi k, a9, a10, a11, a12, a13, a14] [] (Zg g h) F := by
    intro m
    induction m with
    | zero =>
      intro k a9 a10 a11 a12 a13 a14 F hk hf ht k9 k10 k11 k12 k13
      have e1 : F 45 1 = n := by rw [hf _ _ (by decide)]; exact n1
      have hkn : k = n := by omega
      subst hkn
      refine V_iload_8 d_cr_fillPart_28 ?_
      refine V_aload_0 d_cr_fillPart_30 ?_
      refine V_getI d_cr_fillPart_31 fl_cr_30 is_cr ?_
      rw [e1]
      refine V_icmp_ge 222 d_cr_fillPart_34 (by decide) (by omega) (by omega) (fun c34 => ?_) (fun c34 => by omega)
      refine V_return d_cr_fillPart_222 (hR _ ?_)
      exact ⟨hf, ht⟩
    | succ m ih =>
      intro k a9 a10 a11 a12 a13 a14 F hk hf ht k9 k10 k11 k12 k13
      have h5 : (0 : Int) ≤ 15625 / 5 ^ k ∧ (15625 : Int) / 5 ^ k ≤ 15625 := ⟨Int.ediv_nonneg (by decide) (Int.le_of_lt (Int.pow_pos (by decide))), Int.ediv_le_self _ (by decide)⟩
      have K : ∀ (v s : Int) (b9 : Value), b9.category = 1 → ∀ F' a14, (∀ j i, ¬ j = 49 → F' j i = f j i) → (∀ x, 0 ≤ x → x < 2 ^ (k + 1) → F' 49 x = enc (PCt A c l w sh (k + 1) (bt x))) → V D C m_cr_fillPart 210 [vr D 45, vr D g, vr D 10, vi sh, vi l, vi w, vi (mB (held A sh)), vi (15625 / 5 ^ k), vi k, b9, vi v, vi s, vi (mB (fun j => decide (j < n) && !can A (c k) (c j))), vi (2 ^ k), a14] [] (Zg g h) F' := by
        intro v s b9 h9 F' a14 hf' ht'
        refine V_iload_7 d_cr_fillPart_210 ?_
        refine V_iconst 5 d_cr_fillPart_212 ?_
        refine V_idiv d_cr_fillPart_213 (by omega) (by omega) ?_
        rw [Int.ediv_ediv_of_nonneg (Int.le_of_lt (Int.pow_pos (by decide))), ← Int.pow_succ]
        refine V_istore_7 d_cr_fillPart_214 rfl ?_
        refine V_iinc_8 d_cr_fillPart_216 rfl ?_
        refine V_goto 28 d_cr_fillPart_219 (by decide) ?_
        exact ih (k + 1) _ _ _ _ _ _ F' (by omega) hf' ht' h9 rfl rfl rfl rfl
      have e1 : F 45 1 = n := by rw [hf _ _ (by decide)]; exact n1
      have ec : F 46 k = c k := by rw [hf _ _ (by decide)]; exact n3 k (by omega) (by omega)
      have bc := n4 k (by omega) (by omega)
      have hGF : Cg g F A := hG.mono (gEq.refl A) hF.1 (fun j i a b => hf j i (by omega))
      have em := hGF.mt bc.1 bc.2
      obtain ⟨⟨e8, e9⟩, b8, b9⟩ := hGF.pp hF.1 hsh bc
      have hcF : q_cho F A c n := ⟨e1, n8, fun j a b => by rw [hf _ _ (by decide)]; exact n3 j a b, n4⟩
      have h2 := p2_rg (k := k) (by omega)
      have hok : okS A c l sh k = (decide (l ≤ A 8 sh (c k)) && decide (mB (fun t => held A sh t && !can A (c k) t) = 0)) := by unfold okS; rw [if_neg (by omega)]
      refine V_iload_8 d_cr_fillPart_28 ?_
      refine V_aload_0 d_cr_fillPart_30 ?_
      refine V_getI d_cr_fillPart_31 fl_cr_30 is_cr ?_
      rw [e1]
      refine V_icmp_ge 222 d_cr_fillPart_34 (by decide) (by omega) (by omega) (fun c34 => by omega) (fun c34 => ?_)
      refine V_aload_1 d_cr_fillPart_37 ?_
      refine V_getR d_cr_fillPart_38 fl_cr_61 (is_gd hg) (r_gd_meets hg) ?_
      refine V_aload_0 d_cr_fillPart_41 ?_
      refine V_getR d_cr_fillPart_42 fl_cr_11 is_cr r_cr_chosen ?_
      refine V_iload_8 d_cr_fillPart_45 ?_
      refine V_iald d_cr_fillPart_47 is_cr_chosen (by omega) (by omega) ?_
      rw [ec]
      refine V_iald d_cr_fillPart_48 (is_gd_meets hg) (by omega) (by omega) ?_
      rw [em]
      refine V_istore_9 d_cr_fillPart_49 rfl ?_
      refine V_aload_1 d_cr_fillPart_51 ?_
      refine V_getR d_cr_fillPart_52 fl_cr_80 (is_gd hg) (r_gd_passes hg) ?_
      refine V_iload_3 d_cr_fillPart_55 ?_
      refine V_aald d_cr_fillPart_56 (is_gd_passes hg) (by omega) (by omega) (r_gd_passesrow hg (by omega)) ?_
      refine V_aload_0 d_cr_fillPart_57 ?_
      refine V_getR d_cr_fillPart_58 fl_cr_11 is_cr r_cr_chosen ?_
      refine V_iload_8 d_cr_fillPart_61 ?_
      refine V_iald d_cr_fillPart_63 is_cr_chosen (by omega) (by omega) ?_
      rw [ec]
      refine V_iald d_cr_fillPart_64 (is_gd_passes_row hg (by omega)) (by omega) (by omega) ?_
      rw [e8]
      refine V_iload_4 d_cr_fillPart_65 ?_
      refine V_icmp_lt 84 d_cr_fillPart_67 (by decide) (by omega) (by omega) (fun c67 => ?_) (fun c67 => ?_)
      · skip
        rw [decide_eq_false (by omega), Bool.false_and] at hok
        refine V_iconst 0 d_cr_fillPart_84 ?_
        refine V_istore_10 d_cr_fillPart_85 rfl ?_
        refine V_iload_5 d_cr_fillPart_87 ?_
        refine V_if_eq 117 d_cr_fillPart_89 (by decide) (by omega) (fun c89 => ?_) (fun c89 => ?_)
        · skip
          have hwt : wtS A c w sh k = some 0 := by unfold wtS; rw [if_pos c89]
          refine V_iconst 0 d_cr_fillPart_117 ?_
          refine V_istore_11 d_cr_fillPart_118 rfl ?_
          refine V_aload_0 d_cr_fillPart_120 ?_
          refine V_iload_9 d_cr_fillPart_121 ?_
          refine V_iconst (-1) d_cr_fillPart_123 ?_
          refine V_ixor d_cr_fillPart_124 ?_
          refine V_cvI1 d_cr_fillPart_125 ml_cr_64 mv_cr_chosenAmong (by decide) (Nat.le_of_ble_eq_true rfl) is_cr (ok_chosenAmong hF.1 hcF (fun i => !can A (c k) i) (fun i i0 i1 => by rw [mB_nbit _ (by omega), decide_eq_true i1, Bool.true_and]; cases can A (c k) i <;> rfl)) ?_
          rintro _ f2 ⟨rfl, e2⟩
          rw [e2]; clear e2 f2
          refine V_istore_12 d_cr_fillPart_128 rfl ?_
          refine V_iconst 0 d_cr_fillPart_130 ?_
          refine V_istore_13 d_cr_fillPart_131 rfl ?_
          exact inner (2 ^ k : Int).toNat _ k _ _ _ _ _ F (by omega) (by omega) (by decide) (by rw [hok]; rfl) hwt hf ht (fun x a b => by omega) (K _ _ _ rfl)
        · skip
          have hwt : wtS A c w sh k = some (A 9 sh (c k) * 78125 + sh * (15625 / 5 ^ k)) := by unfold wtS; rw [if_neg c89]; rfl
          refine V_aload_1 d_cr_fillPart_92 ?_
          refine V_getR d_cr_fillPart_93 fl_cr_83 (is_gd hg) (r_gd_prices hg) ?_
          refine V_iload_3 d_cr_fillPart_96 ?_
          refine V_aald d_cr_fillPart_97 (is_gd_prices hg) (by omega) (by omega) (r_gd_pricesrow hg (by omega)) ?_
          refine V_aload_0 d_cr_fillPart_98 ?_
          refine V_getR d_cr_fillPart_99 fl_cr_11 is_cr r_cr_chosen ?_
          refine V_iload_8 d_cr_fillPart_102 ?_
          refine V_iald d_cr_fillPart_104 is_cr_chosen (by omega) (by omega) ?_
          rw [ec]
          refine V_iald d_cr_fillPart_105 (is_gd_prices_row hg (by omega)) (by omega) (by omega) ?_
          rw [e9]
          refine V_ldc 78125 d_cr_fillPart_106 co_cr_70 rfl ?_
          refine V_imul d_cr_fillPart_108 ?_
          refine V_iload_3 d_cr_fillPart_109 ?_
          refine V_iload_7 d_cr_fillPart_110 ?_
          refine V_imul d_cr_fillPart_112 ?_
          refine V_iadd d_cr_fillPart_113 ?_
          refine V_goto 118 d_cr_fillPart_114 (by decide) ?_
          refine V_istore_11 d_cr_fillPart_118 rfl ?_
          refine V_aload_0 d_cr_fillPart_120 ?_
          refine V_iload_9 d_cr_fillPart_121 ?_
          refine V_iconst (-1) d_cr_fillPart_123 ?_
          refine V_ixor d_cr_fillPart_124 ?_
          refine V_cvI1 d_cr_fillPart_125 ml_cr_64 mv_cr_chosenAmong (by decide) (Nat.le_of_ble_eq_true rfl) is_cr (ok_chosenAmong hF.1 hcF (fun i => !can A (c k) i) (fun i i0 i1 => by rw [mB_nbit _ (by omega), decide_eq_true i1, Bool.true_and]; cases can A (c k) i <;> rfl)) ?_
          rintro _ f2 ⟨rfl, e2⟩
          rw [e2]; clear e2 f2
          refine V_istore_12 d_cr_fillPart_128 rfl ?_
          refine V_iconst 0 d_cr_fillPart_130 ?_
          refine V_istore_13 d_cr_fillPart_131 rfl ?_
          exact inner (2 ^ k : Int).toNat _ k _ _ _ _ _ F (by omega) (by omega) (by decide) (by rw [hok]; rfl) hwt hf ht (fun x a b => by omega) (K _ _ _ rfl)
      · skip
        refine V_iload_6 d_cr_fillPart_70 ?_
        refine V_iload_9 d_cr_fillPart_72 ?_
        refine V_iconst (-1) d_cr_fillPart_74 ?_
        refine V_ixor d_cr_fillPart_75 ?_
        refine V_iand d_cr_fillPart_76 ?_
        rw [mB_andn, heldcan]
        refine V_if_ne 84 d_cr_fillPart_77 (by decide) (mB_rg2 _) (fun c77 => ?_) (fun c77 => ?_)
        · skip
          rw [decide_eq_false c77, Bool.and_false] at hok
          refine V_iconst 0 d_cr_fillPart_84 ?_
          refine V_istore_10 d_cr_fillPart_85 rfl ?_
          refine V_iload_5 d_cr_fillPart_87 ?_
          refine V_if_eq 117 d_cr_fillPart_89 (by decide) (by omega) (fun c89 => ?_) (fun c89 => ?_)
          · skip
            have hwt : wtS A c w sh k = some 0 := by unfold wtS; rw [if_pos c89]
            refine V_iconst 0 d_cr_fillPart_117 ?_
            refine V_istore_11 d_cr_fillPart_118 rfl ?_
            refine V_aload_0 d_cr_fillPart_120 ?_
            refine V_iload_9 d_cr_fillPart_121 ?_
            refine V_iconst (-1) d_cr_fillPart_123 ?_
            refine V_ixor d_cr_fillPart_124 ?_
            refine V_cvI1 d_cr_fillPart_125 ml_cr_64 mv_cr_chosenAmong (by decide) (Nat.le_of_ble_eq_true rfl) is_cr (ok_chosenAmong hF.1 hcF (fun i => !can A (c k) i) (fun i i0 i1 => by rw [mB_nbit _ (by omega), decide_eq_true i1, Bool.true_and]; cases can A (c k) i <;> rfl)) ?_
            rintro _ f2 ⟨rfl, e2⟩
            rw [e2]; clear e2 f2
            refine V_istore_12 d_cr_fillPart_128 rfl ?_
            refine V_iconst 0 d_cr_fillPart_130 ?_
            refine V_istore_13 d_cr_fillPart_131 rfl ?_
            exact inner (2 ^ k : Int).toNat _ k _ _ _ _ _ F (by omega) (by omega) (by decide) (by rw [hok]; rfl) hwt hf ht (fun x a b => by omega) (K _ _ _ rfl)
          · skip
            have hwt : wtS A c w sh k = some (A 9 sh (c k) * 78125 + sh * (15625 / 5 ^ k)) := by unfold wtS; rw [if_neg c89]; rfl
            refine V_aload_1 d_cr_fillPart_92 ?_
            refine V_getR d_cr_fillPart_93 fl_cr_83 (is_gd hg) (r_gd_prices hg) ?_
            refine V_iload_3 d_cr_fillPart_96 ?_
            refine V_aald d_cr_fillPart_97 (is_gd_prices hg) (by omega) (by omega) (r_gd_pricesrow hg (by omega)) ?_
            refine V_aload_0 d_cr_fillPart_98 ?_
            refine V_getR d_cr_fillPart_99 fl_cr_11 is_cr r_cr_chosen ?_
            refine V_iload_8 d_cr_fillPart_102 ?_
            refine V_iald d_cr_fillPart_104 is_cr_chosen (by omega) (by omega) ?_
            rw [ec]
            refine V_iald d_cr_fillPart_105 (is_gd_prices_row hg (by omega)) (by omega) (by omega) ?_
            rw [e9]
            refine V_ldc 78125 d_cr_fillPart_106 co_cr_70 rfl ?_
            refine V_imul d_cr_fillPart_108 ?_
            refine V_iload_3 d_cr_fillPart_109 ?_
            refine V_iload_7 d_cr_fillPart_110 ?_
            refine V_imul d_cr_fillPart_112 ?_
            refine V_iadd d_cr_fillPart_113 ?_
            refine V_goto 118 d_cr_fillPart_114 (by decide) ?_
            refine V_istore_11 d_cr_fillPart_118 rfl ?_
            refine V_aload_0 d_cr_fillPart_120 ?_
            refine V_iload_9 d_cr_fillPart_121 ?_
            refine V_iconst (-1) d_cr_fillPart_123 ?_
            refine V_ixor d_cr_fillPart_124 ?_
            refine V_cvI1 d_cr_fillPart_125 ml_cr_64 mv_cr_chosenAmong (by decide) (Nat.le_of_ble_eq_true rfl) is_cr (ok_chosenAmong hF.1 hcF (fun i => !can A (c k) i) (fun i i0 i1 => by rw [mB_nbit _ (by omega), decide_eq_true i1, Bool.true_and]; cases can A (c k) i <;> rfl)) ?_
            rintro _ f2 ⟨rfl, e2⟩
            rw [e2]; clear e2 f2
            refine V_istore_12 d_cr_fillPart_128 rfl ?_
            refine V_iconst 0 d_cr_fillPart_130 ?_
            refine V_istore_13 d_cr_fillPart_131 rfl ?_
            exact inner (2 ^ k : Int).toNat _ k _ _ _ _ _ F (by omega) (by omega) (by decide) (by rw [hok]; rfl) hwt hf ht (fun x a b => by omega) (K _ _ _ rfl)
        · skip
          rw [decide_eq_true (by omega), decide_eq_true c77] at hok
          refine V_iconst 1 d_cr_fillPart_80 ?_
          refine V_goto 85 d_cr_fillPart_81 (by decide) ?_
          refine V_istore_10 d_cr_fillPart_85 rfl ?_
          refine V_iload_5 d_cr_fillPart_87 ?_
          refine V_if_eq 117 d_cr_fillPart_89 (by decide) (by omega) (fun c89 => ?_) (fun c89 => ?_)
          · skip
            have hwt : wtS A c w sh k = some 0 := by unfold wtS; rw [if_pos c89]
            refine V_iconst 0 d_cr_fillPart_117 ?_
            refine V_istore_11 d_cr_fillPart_118 rfl ?_
            refine V_aload_0 d_cr_fillPart_120 ?_
            refine V_iload_9 d_cr_fillPart_121 ?_
            refine V_iconst (-1) d_cr_fillPart_123 ?_
            refine V_ixor d_cr_fillPart_124 ?_
            refine V_cvI1 d_cr_fillPart_125 ml_cr_64 mv_cr_chosenAmong (by decide) (Nat.le_of_ble_eq_true rfl) is_cr (ok_chosenAmong hF.1 hcF (fun i => !can A (c k) i) (fun i i0 i1 => by rw [mB_nbit _ (by omega), decide_eq_true i1, Bool.true_and]; cases can A (c k) i <;> rfl)) ?_
            rintro _ f2 ⟨rfl, e2⟩
            rw [e2]; clear e2 f2
            refine V_istore_12 d_cr_fillPart_128 rfl ?_
            refine V_iconst 0 d_cr_fillPart_130 ?_
            refine V_istore_13 d_cr_fillPart_131 rfl ?_
            exact inner (2 ^ k : Int).toNat _ k _ _ _ _ _ F (by omega) (by omega) (by decide) (by rw [hok]; rfl) hwt hf ht (fun x a b => by omega) (K _ _ _ rfl)
          · skip
            have hwt : wtS A c w sh k = some (A 9 sh (c k) * 78125 + sh * (15625 / 5 ^ k)) := by unfold wtS; rw [if_neg c89]; rfl
            refine V_aload_1 d_cr_fillPart_92 ?_
            refine V_getR d_cr_fillPart_93 fl_cr_83 (is_gd hg) (r_gd_prices hg) ?_
            refine V_iload_3 d_cr_fillPart_96 ?_
            refine V_aald d_cr_fillPart_97 (is_gd_prices hg) (by omega) (by omega) (r_gd_pricesrow hg (by omega)) ?_
            refine V_aload_0 d_cr_fillPart_98 ?_
            refine V_getR d_cr_fillPart_99 fl_cr_11 is_cr r_cr_chosen ?_
            refine V_iload_8 d_cr_fillPart_102 ?_
            refine V_iald d_cr_fillPart_104 is_cr_chosen (by omega) (by omega) ?_
            rw [ec]
            refine V_iald d_cr_fillPart_105 (is_gd_prices_row hg (by omega)) (by omega) (by omega) ?_
            rw [e9]
            refine V_ldc 78125 d_cr_fillPart_106 co_cr_70 rfl ?_
            refine V_imul d_cr_fillPart_108 ?_
            refine V_iload_3 d_cr_fillPart_109 ?_
            refine V_iload_7 d_cr_fillPart_110 ?_
            refine V_imul d_cr_fillPart_112 ?_
            refine V_iadd d_cr_fillPart_113 ?_
            refine V_goto 118 d_cr_fillPart_114 (by decide) ?_
            refine V_istore_11 d_cr_fillPart_118 rfl ?_
            refine V_aload_0 d_cr_fillPart_120 ?_
            refine V_iload_9 d_cr_fillPart_121 ?_
            refine V_iconst (-1) d_cr_fillPart_123 ?_
            refine V_ixor d_cr_fillPart_124 ?_
            refine V_cvI1 d_cr_fillPart_125 ml_cr_64 mv_cr_chosenAmong (by decide) (Nat.le_of_ble_eq_true rfl) is_cr (ok_chosenAmong hF.1 hcF (fun i => !can A (c k) i) (fun i i0 i1 => by rw [mB_nbit _ (by omega), decide_eq_true i1, Bool.true_and]; cases can A (c k) i <;> rfl)) ?_
            rintro _ f2 ⟨rfl, e2⟩
            rw [e2]; clear e2 f2
            refine V_istore_12 d_cr_fillPart_128 rfl ?_
            refine V_iconst 0 d_cr_fillPart_130 ?_
            refine V_istore_13 d_cr_fillPart_131 rfl ?_
            exact inner (2 ^ k : Int).toNat _ k _ _ _ _ _ F (by omega) (by omega) (by decide) (by rw [hok]; rfl) hwt hf ht (fun x a b => by omega) (K _ _ _ rfl)
  refine V_aload_2 d_cr_fillPart_0 ?_
  refine V_iload_3 d_cr_fillPart_1 ?_
  refine V_aload_1 d_cr_fillPart_2 ?_
  refine V_getR d_cr_fillPart_3 fl_cr_38 (is_gd hg) (r_gd_counts hg) ?_
  refine V_iconst 4 d_cr_fillPart_6 ?_
  refine V_iald d_cr_fillPart_7 (is_gd_counts hg) (by omega) (by omega) ?_
  refine V_cvI2 d_cr_fillPart_8 ml_cr_74 mv_hi_held (by decide) (Nat.le_of_ble_eq_true rfl) is_hi (ok_held hH hF.1 hF.2.1 (by omega) hG.c4) ?_
  rintro _ f2 ⟨rfl, e2⟩
  rw [e2]; clear e2 f2
  refine V_istore_6 d_cr_fillPart_11 rfl ?_
  refine V_sipush 15625 d_cr_fillPart_13 (by decide) ?_
  refine V_istore_7 d_cr_fillPart_16 rfl ?_
  refine V_aload_0 d_cr_fillPart_18 ?_
  refine V_getR d_cr_fillPart_19 fl_cr_21 is_cr r_cr_part ?_
  refine V_iconst 0 d_cr_fillPart_22 ?_
  refine V_iconst 0 d_cr_fillPart_23 ?_
  refine V_iast d_cr_fillPart_24 is_cr_part (by omega) (by omega) ?_
  refine V_iconst 0 d_cr_fillPart_25 ?_
  refine V_istore_8 d_cr_fillPart_26 rfl ?_
  refine outer n 0 _ _ _ _ _ _ _ (by omega) (fun j i hj => q_up_at hj) (fun x x0 x1 => ?_) rfl rfl rfl rfl rfl
  have : x = 0 := by have : x < 1 := x1; omega
  rw [this, q_up_eq]; rfl
end HS9B
