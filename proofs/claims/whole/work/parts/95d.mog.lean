/-! THE REFERENCE'S guild() -/
section MOG
variable {D : q_D} {C : q_C} {f f' f'' S S' : q_F} {A : q_As} {g h : Int} {T : Int → Int} {N p e : Int} {L : List Int}
theorem dig32 : ∀ (l : List Int), (∀ c ∈ l, isL c = true) → ∀ k : Nat, pk32 l / 32 ^ k % 32 = if k < l.length then l.getD k 0 - 96 else 0 := by
  intro l
  induction l with
  | nil => intro _ k; show (0 : Int) / 32 ^ k % 32 = _; rw [Int.zero_ediv]; rfl
  | cons c l ih =>
    intro hl k
    have hc := hl c (List.mem_cons_self ..)
    unfold isL at hc; rw [decide_eq_true_iff] at hc
    have ih := ih (fun x hx => hl x (List.mem_cons_of_mem _ hx))
    rw [pk32]
    cases k with
    | zero =>
      rw [List.length_cons, if_pos (by omega)]
      show (c - 96 + 32 * pk32 l) / 1 % 32 = c - 96
      omega
    | succ k =>
      have e1 : (c - 96 + 32 * pk32 l) / 32 ^ (k + 1) = pk32 l / 32 ^ k := by
        rw [Int.pow_succ, Int.mul_comm (32 ^ k), ← Int.ediv_ediv_of_nonneg (by decide), show (c - 96 + 32 * pk32 l) / 32 = pk32 l by omega]
      rw [e1, ih k, List.length_cons]
      by_cases hk : k < l.length
      · rw [if_pos hk, if_pos (by omega)]; rfl
      · rw [if_neg hk, if_neg (by omega)]
theorem dig27 : ∀ (l : List Int), (∀ c ∈ l, isL c = true) → (0 ≤ pr27 l ∧ pr27 l < 27 ^ l.length) ∧ ∀ k : Nat, k < l.length → pr27 l / 27 ^ k % 27 = l.getD k 0 - 96 := by
  intro l
  induction l with
  | nil => intro _; exact ⟨by decide, fun k hk => absurd hk (Nat.not_lt_zero _)⟩
  | cons c l ih =>
    intro hl
    have hc := hl c (List.mem_cons_self ..)
    unfold isL at hc; rw [decide_eq_true_iff] at hc
    obtain ⟨ih1, ih2⟩ := ih (fun x hx => hl x (List.mem_cons_of_mem _ hx))
    refine ⟨?_, fun k hk => ?_⟩
    · rw [pr27, List.length_cons, Int.pow_succ]; omega
    · rw [pr27]
      cases k with
      | zero =>
        show (27 * pr27 l + (c - 96)) / 1 % 27 = c - 96
        omega
      | succ k =>
        have e1 : (27 * pr27 l + (c - 96)) / 27 ^ (k + 1) = pr27 l / 27 ^ k := by
          rw [Int.pow_succ, Int.mul_comm (27 ^ k), ← Int.ediv_ediv_of_nonneg (by decide), show (27 * pr27 l + (c - 96)) / 27 = pr27 l by omega]
        rw [e1, ih2 k (by rw [List.length_cons] at hk; omega)]; rfl
/-- a name in both packings -/
theorem nm_dig {l : List Int} (hl : isNm l) {v w : Int} (hv : v = pk32 l) (hw : w = pk27 l) : ∃ n : Int, 0 < n ∧ n ≤ 6 ∧ (∀ k, 0 ≤ k → k < n → 1 ≤ v / 32 ^ k.toNat % 32 ∧ v / 32 ^ k.toNat % 32 ≤ 26) ∧ (∀ k, n ≤ k → k < 6 → v / 32 ^ k.toNat % 32 = 0) ∧ (0 < w ∧ w < 387420489) ∧ (∀ k, 0 ≤ k → k < n → w / 27 ^ (n - 1 - k).toNat % 27 = v / 32 ^ k.toNat % 32) ∧ w < 27 ^ n.toNat := by
  subst hv hw
  have d := dig32 l hl.2.2
  have hr : ∀ c ∈ l.reverse, isL c = true := fun c hc => hl.2.2 c (List.mem_reverse.mp hc)
  have e := dig27 l.reverse hr
  rw [List.length_reverse] at e
  have hp := hl.pos
  have hg := pk27_rg hl.2.2 hl.2.1
  refine ⟨l.length, by have := hl.1; omega, by have := hl.2.1; omega, fun k k0 k1 => ?_, fun k k0 k1 => ?_, ⟨hp.2, hg.2⟩, fun k k0 k1 => ?_, ?_⟩
  · rw [d, if_pos (by omega)]
    have hm : l.getD k.toNat 0 ∈ l := by
      rw [List.getD_eq_getElem?_getD, List.getElem?_eq_getElem (by omega), Option.getD_some]; exact List.getElem_mem _
    have hc := hl.2.2 _ hm
    unfold isL at hc; rw [decide_eq_true_iff] at hc
    omega
  · rw [d, if_neg (by omega)]
  · rw [d, if_pos (by omega)]
    have e2 := e.2 ((l.length : Int) - 1 - k).toNat (by omega)
    show pr27 l.reverse / _ % 27 = _
    rw [e2]
    congr 1
    rw [List.getD_eq_getElem?_getD, List.getD_eq_getElem?_getD, List.getElem?_reverse (by omega)]
    congr 2
    omega
  · have := e.1.2
    show pr27 l.reverse < _
    rw [show (l.length : Int).toNat = l.length by omega]; exact this
theorem sLoop_end (m : Nat) (r : q_PR) : rb r (fun s => rb (l_sign T N 59 s.2.2.1 s.2.2.2) (fun u => sLoop T N m (q_up s.1 0 13 (s.1 0 13 + 1)) s.2.1 u.1 u.2)) = rb (sEnd T N r) (fun s => sLoop T N m s.1 s.2.1 s.2.2.1 s.2.2.2) := by
  unfold sEnd
  cases r with
  | inl e => rfl
  | inr s =>
    show rb (l_sign T N 59 s.2.2.1 s.2.2.2) _ = rb (rb (l_sign T N 59 s.2.2.1 s.2.2.2) _) _
    cases l_sign T N 59 s.2.2.1 s.2.2.2 with
    | inl e => rfl
    | inr u => rfl
/-- statement by statement -/
theorem mo_gloop {F0 : q_F} {u : Value} (hw0 : mW F0) {X : q_PR} (K : ∀ F, mP F0 F T N X → V D C m_mo_guild 128 [vr D 219, u] [] (Zg g h) F) : ∀ (m : Nat) (S : q_F) (L : List Int) (p e : Int) (F : q_F), S 0 13 + m = 90 → 1 ≤ S 0 13 → mpS F T N (.inr (p, e)) → mE F S L → pW S → pX S L → (L.length : Int) ≤ p → mZ F0 F → X = sLoop T N m S L p e → V D C m_mo_guild 106 [vr D 219, u] [] (Zg g h) F := by
  have bad : ∀ (e0 : Int × Int) (F : q_F), X = .inl e0 → mpS F T N (.inl e0) → mZ F0 F → V D C m_mo_guild 106 [vr D 219, u] [] (Zg g h) F := by
    intro e0 F hX t1 z1
    have b1 := t1.2.2.2
    rw [hX] at K
    refine V_aload_0 d_mo_guild_106 ?_
    refine V_getI d_mo_guild_107 fl_mo_185 is_mo ?_
    rw [b1.1]
    refine V_if_ne 128 d_mo_guild_110 (by decide) (by omega) (fun c110 => ?_) (fun c110 => by omega)
    exact K F ⟨z1, t1⟩
  have stop : ∀ (S : q_F) (L : List Int) (p e : Int) (F : q_F), mpS F T N (.inr (p, e)) → mE F S L → pW S → mZ F0 F → lk T N p = -1 → X = .inr (S, L, p, e) → V D C m_mo_guild 106 [vr D 219, u] [] (Zg g h) F := by
    intro S L p e F t1 E1 hW1 z1 hlk hX
    have b1 := t1.2.2.2.1
    rw [hX] at K
    refine V_aload_0 d_mo_guild_106 ?_
    refine V_getI d_mo_guild_107 fl_mo_185 is_mo ?_
    rw [b1]
    refine V_if_ne 128 d_mo_guild_110 (by decide) (by omega) (fun c110 => by omega) (fun c110 => ?_)
    refine V_aload_0 d_mo_guild_113 ?_
    refine V_cvI0 d_mo_guild_114 ml_mo_197 mv_mo_look (by decide) (Nat.le_of_ble_eq_true rfl) is_mo (ok_look t1) ?_
    rintro _ f2 ⟨rfl, e2⟩
    rw [e2]; clear e2 f2
    refine V_iconst (-1) d_mo_guild_117 ?_
    rw [hlk]
    refine V_icmp_eq 128 d_mo_guild_118 (by decide) (by omega) (by omega) (fun c118 => ?_) (fun c118 => by omega)
    exact K _ ⟨z1.tr ((mK.refl F).up (by decide)).z, t1.pl, E1.mk hW1 ((mK.refl F).up (by decide))⟩
  intro m
  induction m with
  | zero =>
    intro S L p e F hm h1 t1 E1 hW1 hX1 hL z1 hX
    have hX : X = if lk T N p = -1 then .inr (S, L, p, e) else .inl (5, p) := hX
    by_cases hlk : lk T N p = -1
    · rw [if_pos hlk] at hX
      exact stop S L p e F t1 E1 hW1 z1 hlk hX
    · rw [if_neg hlk] at hX
      have b1 := t1.2.2.2.1
      have k0 : mK F (q_up F 219 2 p) := (mK.refl F).up (by decide)
      have hpr := t1.pr
      have hlr := lk_rg (p := p) t1.1 hpr.1
      have hst := ok_statementTold (D := D) (g := g) (h := h) t1.pl (q_up_eq _ _ _ _) ((z1.tr k0.z).w hw0) (E1.mk hW1 k0) hW1 hX1.rsy hL hX1.2.2.2.2.2.2.2.2 (by omega)
      rw [if_pos (by omega)] at hst
      refine V_aload_0 d_mo_guild_106 ?_
      refine V_getI d_mo_guild_107 fl_mo_185 is_mo ?_
      rw [b1]
      refine V_if_ne 128 d_mo_guild_110 (by decide) (by omega) (fun c110 => by omega) (fun c110 => ?_)
      refine V_aload_0 d_mo_guild_113 ?_
      refine V_cvI0 d_mo_guild_114 ml_mo_197 mv_mo_look (by decide) (Nat.le_of_ble_eq_true rfl) is_mo (ok_look t1) ?_
      rintro _ f2 ⟨rfl, e2⟩
      rw [e2]; clear e2 f2
      refine V_iconst (-1) d_mo_guild_117 ?_
      refine V_icmp_eq 128 d_mo_guild_118 (by decide) (by omega) (by omega) (fun c118 => by omega) (fun c118 => ?_)
      refine V_aload_0 d_mo_guild_121 ?_
      refine V_cvV0 d_mo_guild_122 ml_mo_316 mv_mo_statementTold (by decide) (Nat.le_of_ble_eq_true rfl) is_mo (hst) ?_
      rintro F2 hP
      refine V_goto 106 d_mo_guild_125 (by decide) ?_
      exact bad (5, p) F2 hX hP.2 ((z1.tr k0.z).tr hP.1)
  | succ m ih =>
    intro S L p e F hm h1 t1 E1 hW1 hX1 hL z1 hX
    have hX : X = if lk T N p = -1 then .inr (S, L, p, e) else rb (sStm false S T N L p e) (fun s => rb (l_sign T N 59 s.2.2.1 s.2.2.2) (fun u => sLoop T N m (q_up s.1 0 13 (s.1 0 13 + 1)) s.2.1 u.1 u.2)) := hX
    by_cases hlk : lk T N p = -1
    · rw [if_pos hlk] at hX
      exact stop S L p e F t1 E1 hW1 z1 hlk hX
    · rw [if_neg hlk, sLoop_end] at hX
      have b1 := t1.2.2.2.1
      have k0 : mK F (q_up F 219 2 p) := (mK.refl F).up (by decide)
      have hpr := t1.pr
      have hlr := lk_rg (p := p) t1.1 hpr.1
      push_cast at hm
      have hst := ok_statementTold (D := D) (g := g) (h := h) t1.pl (q_up_eq _ _ _ _) ((z1.tr k0.z).w hw0) (E1.mk hW1 k0) hW1 hX1.rsy hL hX1.2.2.2.2.2.2.2.2 (by omega)
      rw [if_neg (by omega)] at hst
      cases hr : sEnd T N (sStm false S T N L p e) with
      | inl e0 =>
        rw [hr] at hX hst
        refine V_aload_0 d_mo_guild_106 ?_
        refine V_getI d_mo_guild_107 fl_mo_185 is_mo ?_
        rw [b1]
        refine V_if_ne 128 d_mo_guild_110 (by decide) (by omega) (fun c110 => by omega) (fun c110 => ?_)
        refine V_aload_0 d_mo_guild_113 ?_
        refine V_cvI0 d_mo_guild_114 ml_mo_197 mv_mo_look (by decide) (Nat.le_of_ble_eq_true rfl) is_mo (ok_look t1) ?_
        rintro _ f2 ⟨rfl, e2⟩
        rw [e2]; clear e2 f2
        refine V_iconst (-1) d_mo_guild_117 ?_
        refine V_icmp_eq 128 d_mo_guild_118 (by decide) (by omega) (by omega) (fun c118 => by omega) (fun c118 => ?_)
        refine V_aload_0 d_mo_guild_121 ?_
        refine V_cvV0 d_mo_guild_122 ml_mo_316 mv_mo_statementTold (by decide) (Nat.le_of_ble_eq_true rfl) is_mo (hst) ?_
        rintro F2 hP
        refine V_goto 106 d_mo_guild_125 (by decide) ?_
        exact bad e0 F2 hX hP.2 ((z1.tr k0.z).tr hP.1)
      | inr s =>
        obtain ⟨S2, L2, q2, d2⟩ := s
        obtain ⟨S1, q1, d1, r1, r2, r3⟩ := sEnd_in hr
        have k1 := sStm_ok false hW1 (fun h => by cases h) hpr.1 hpr.2.1 hpr.2.2.2.1.2 hL r1
        have k2 := pX.stm false hX1 hW1 (fun h => by cases h) hpr.1 hpr.2.1 hpr.2.2.2.1.2 r1
        have k3 := l_sign_some (by decide) r2
        rw [hr] at hX hst
        have hX : X = sLoop T N m S2 L2 q2 d2 := hX
        refine V_aload_0 d_mo_guild_106 ?_
        refine V_getI d_mo_guild_107 fl_mo_185 is_mo ?_
        rw [b1]
        refine V_if_ne 128 d_mo_guild_110 (by decide) (by omega) (fun c110 => by omega) (fun c110 => ?_)
        refine V_aload_0 d_mo_guild_113 ?_
        refine V_cvI0 d_mo_guild_114 ml_mo_197 mv_mo_look (by decide) (Nat.le_of_ble_eq_true rfl) is_mo (ok_look t1) ?_
        rintro _ f2 ⟨rfl, e2⟩
        rw [e2]; clear e2 f2
        refine V_iconst (-1) d_mo_guild_117 ?_
        refine V_icmp_eq 128 d_mo_guild_118 (by decide) (by omega) (by omega) (fun c118 => by omega) (fun c118 => ?_)
        refine V_aload_0 d_mo_guild_121 ?_
        refine V_cvV0 d_mo_guild_122 ml_mo_316 mv_mo_statementTold (by decide) (Nat.le_of_ble_eq_true rfl) is_mo (hst) ?_
        rintro F2 hP
        refine V_goto 106 d_mo_guild_125 (by decide) ?_
        exact ih S2 L2 q2 d2 F2 (by rw [r3, q_up_eq, k2.2]; omega) (by rw [r3, q_up_eq, k2.2]; omega) hP.2.1 hP.2.2 (by rw [r3]; exact k1.1.up2 (Or.inl rfl)) (by rw [r3]; exact k2.1.num (Or.inl rfl)) (by omega) ((z1.tr k0.z).tr hP.1) hX
end MOG
