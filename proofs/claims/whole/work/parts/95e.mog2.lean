/-! THE REFERENCE'S guild(): its begin and its end -/
section MOG2
variable {D : q_D} {C : q_C} {f f' f'' S S' : q_F} {A : q_As} {g h : Int} {T : Int → Int} {N p e : Int} {L : List Int}
theorem mg_rd {j k : Int} (hm : q_mg j k) : ¬ rdC j k := by
  intro hr
  unfold q_mg at hm
  unfold rdC at hr
  rcases hm with hm | hm | hm | hm | hm | hm | hm | hm | hm | hm | hm | hm <;> omega
/-- what changes outside of the rows that are read -/
def gK (f F : q_F) : Prop := ∀ j k, ¬ rdC j k → ¬ (j = 219 ∧ (k = 1 ∨ k = 3)) → F j k = f j k
theorem Mst.gbad (hS : Mst f A) (hF : Wf A) (e : Int × Int) (hf : ∀ j k, ¬ rdC j k → ¬ (j = 219 ∧ (k = 1 ∨ k = 3 ∨ k = 7 ∨ k = 8)) → f' j k = f j k) (h1 : f' 219 1 = 0) (h3 : f' 219 7 = e.1) (h4 : f' 219 8 = e.2) : Mst f' (A_gbad A e) := by
  obtain ⟨hG, hH, hT⟩ := hS
  obtain ⟨t1, t2, t3, t4, t5, t6, t7⟩ := hT
  have fr : ∀ j k, (j = 219 ∧ (64 ≤ k ∨ k = 45)) ∨ 260 ≤ j → f' j k = f j k := fun j k hj => hf j k (fun hr => by unfold rdC at hr; omega) (by omega)
  refine ⟨hG.mono (gEq_bad A e) (fun j k hm => hf j k (mg_rd hm) (by unfold q_mg at hm; omega)) hF.1, hH.mono rfl rfl rfl (bad13 A e (by decide) 0) (fun k => fr _ _ (by omega)) (fun k => fr _ _ (by omega)) (fr _ _ (by omega)) (fr _ _ (by omega)), h1, fun k k0 k1 => ?_, h3, h4, ?_, ?_, fun k k0 k1 => ?_⟩
  · have k1 : k < 0 := k1
    omega
  · rw [bad13 A e (by decide), fr _ _ (by omega)]; exact t5
  · rw [bad13 A e (by decide), fr _ _ (by omega)]; exact t6
  · rw [bad13 A e (by decide)] at k1
    rw [fr _ _ (by omega)]; exact t7 k k0 k1
theorem Mst.guild {B : Int → Int} {F : q_F} (hS : Mst f A) (hW : pW S) (hX : pX S L) (hN : mN F S) (h1 : sdP S L F f') (hf : ∀ j k, 260 ≤ j ∨ (j = 219 ∧ 64 ≤ k) → F j k = f j k) (hT : F 219 1 = 0 ∧ F 219 7 = 0 ∧ F 219 8 = -1) : Mst f' (A_guild A S L B) := by
  obtain ⟨-, hH0, hT0⟩ := hS
  obtain ⟨s1, s2, s3, s4, s5, s6, s7, s8⟩ := h1
  have hRo := hX.ro hW
  have b3 := hW.2.2.2.1
  have b4 := hW.2.2.2.2.1
  have n0 : A_guild A S L B 0 0 0 = S 1 0 := gld0 A S L B (by decide) 0
  have n1 : A_guild A S L B 0 1 0 = S 1 1 := gld0 A S L B (by decide) 0
  have n2 : A_guild A S L B 0 2 0 = S 1 2 := gld0 A S L B (by decide) 0
  have n3 : A_guild A S L B 0 3 0 = S 1 3 := gld0 A S L B (by decide) 0
  have n4 : A_guild A S L B 0 4 0 = S 1 4 := gld0 A S L B (by decide) 0
  have n5 : A_guild A S L B 0 5 0 = S 1 5 := gld0 A S L B (by decide) 0
  have cut : ∀ a b, 0 ≤ a → a < S 1 3 → 0 ≤ b → b < S 1 3 → fly (rdS S) 8 a b = fly (rdS S) (S 1 3).toNat a b := fun a b a0 a1 b0 b1 => fly_cut hRo b3.1 (fun x y x0 x1 y0 y1 hn ho => (hX.1 x y x0 x1 y0 y1).2.2 hn ho) ⟨a0, a1⟩ ⟨b0, b1⟩ 8 (by omega) (by decide)
  refine ⟨⟨⟨?_, ?_, ?_, ?_, ?_, ?_⟩, ?_, fun i w i0 i1 w0 w1 => ?_, fun t w t0 t1 w0 w1 => ?_, fun p t p0 p1 t0 t1 => ?_, fun p t p0 p1 t0 t1 => ?_, fun p p0 p1 => ?_, fun a b a0 a1 b0 b1 => ?_, fun s k s0 s1' k0 k1 => ?_, fun i s i0 i1 s0 s1' => ?_, fun s s0 s1' => ?_⟩, ⟨fun s s0 s1' => ?_, s7, ?_, fun n s n0 n1 => ?_⟩, ⟨?_, fun k k0 k1 => ?_, ?_, ?_, ?_, ?_, fun k k0 k1 => ?_⟩⟩
  · rw [n0]; exact s1.1.1
  · rw [n1]; exact s1.1.2.1
  · rw [n2]; exact s1.1.2.2.1
  · rw [n3]; exact s1.1.2.2.2.1
  · rw [n4]; exact s1.1.2.2.2.2.1
  · rw [n5]; exact s1.1.2.2.2.2.2
  · exact s3
  · rw [gld0 A S L B (by omega)] at w1
    have hw8 := hW.cn (k := i) ⟨i0, i1⟩
    obtain ⟨l, l1, l2, l3⟩ := hN.2 i w i0 i1 w0 w1
    have e1 : ∀ k, A_guild A S L B 1 (8 * i + w) k = S (3 + i) w / 32 ^ k.toNat % 32 := fun k => by
      show S (3 + (8 * i + w) / 8) ((8 * i + w) % 8) / 32 ^ k.toNat % 32 = _
      rw [show (8 * i + w) / 8 = i by omega, show (8 * i + w) % 8 = w by omega]
    have e2 : f' 247 (32 + 8 * i + w) = pk27 l := by rw [show 32 + 8 * i + w = 32 + (8 * i + w) by omega, s2 _ (by omega) (by omega)]; exact l3
    obtain ⟨n, d1, d2, d3, d4, d5, d6, d7⟩ := nm_dig l1 l2 e2
    exact ⟨n, d1, d2, fun k k0 k1 => by rw [e1]; exact d3 k k0 k1, fun k k0 k1 => by rw [e1]; exact d4 k k0 k1, d5, fun k k0 k1 => by rw [e1]; exact d6 k k0 k1, d7⟩
  · rw [n0] at t1; exact s1.2.1 t w t0 t1 w0 w1
  · rw [n1] at p1; rw [n0] at t1; exact s1.2.2.1 p t p0 p1 t0 t1
  · rw [n2] at p1; rw [n0] at t1; exact s1.2.2.2.1 p t p0 p1 t0 t1
  · rw [n2] at p1; exact s1.2.2.2.2.1 p p0 p1
  · rw [n3] at a1 b1; rw [s4 a b a0 (by omega) b0 (by omega)]; exact cut a b a0 a1 b0 b1
  · rw [n4] at s1'; exact s1.2.2.2.2.2 s k s0 s1' k0 k1
  · rw [n2] at i1; rw [n4] at s1'; exact s6 i s i0 i1 s0 s1'
  · rw [n4] at s1' ⊢
    rw [(s5 s s0 s1').2]
    refine mB_eq (fun j j0 j1 => ?_)
    rw [can_gld]
    by_cases hj : j < S 1 4
    · have x1 := hX.2.1 s s0 s1'
      have x2 := hX.2.1 j j0 hj
      unfold nr
      rw [cut _ _ x1.2.1.1 x1.2.1.2 x2.2.1.1 x2.2.1.2]
    · rw [decide_eq_false hj, Bool.false_and, Bool.false_and]
  · rw [n4] at s1'; exact (s5 s s0 s1').1
  · rw [s8 _ _ (by omega), hf _ _ (by omega)]; exact hH0.2.2.1
  · have n1 : n < 0 := n1
    omega
  · rw [s8 _ _ (by omega)]; exact hT.1
  · have k1 : k < 0 := k1
    omega
  · rw [s8 _ _ (by omega)]; exact hT.2.1
  · rw [s8 _ _ (by omega)]; exact hT.2.2
  · rw [gld13 A S L B (by decide), s8 _ _ (by omega), hf _ _ (by omega)]; exact hT0.2.2.2.2.1
  · rw [gld13 A S L B (by decide), s8 _ _ (by omega), hf _ _ (by omega)]; exact hT0.2.2.2.2.2.1
  · rw [gld13 A S L B (by decide)] at k1
    rw [s8 _ _ (by omega), hf _ _ (by omega)]; exact hT0.2.2.2.2.2.2 k k0 k1
/-- how guild() ends in the reference -/
def mgP (A : q_As) (S0 f : q_F) (x : Int) (f' : q_F) : Prop := match sText (fun k => A 14 k 0) (A 13 0 3) S0 with
  | .inl e => x = -1 ∧ Mst f' (A_gbad A e) ∧ q_hi f f' ∧ (1 ≤ e.1 ∧ e.1 ≤ 5)
  | .inr s => x = s.1 0 13 ∧ (∀ B, Mst f' (A_guild A s.1 s.2.1 B)) ∧ q_hi f f'
theorem mo_guild (hS : Mst f A) (hF : Wf A) (hw : mW f) (S0 : q_F) : OkI D m_mo_guild [vr D 219] (Zg g h) f (mgP A S0 f) := by
  have hTW : tW (fun k => A 14 k 0) (A 13 0 3) := ⟨hF.2.2.1, fun k a b => hF.2.2.2.1 k a b⟩
  have hok := sText_ok (T := fun k => A 14 k 0) hTW.1.1 hTW.1.2 S0
  have t1 := hS.2.2.1
  have t2 := hS.2.2.2.1
  refine OkI_of (L0 := [vr D 219, vu]) mi_mo_guild rfl rfl (Nat.le_of_ble_eq_true rfl) (fun C hR => ?_)
  unfold mgP at hR
  have hX : sText (fun k => A 14 k 0) (A 13 0 3) S0 = rb (sEnd (fun k => A 14 k 0) (A 13 0 3) (sStm true (clrS S0) (fun k => A 14 k 0) (A 13 0 3) [] (sk (fun k => A 14 k 0) (A 13 0 3) 0) (-1))) (fun s => sLoop (fun k => A 14 k 0) (A 13 0 3) 89 s.1 s.2.1 s.2.2.1 s.2.2.2) := by
    unfold sText; exact sLoop_end 89 _
  generalize hT : (fun k => A 14 k 0) = T at *
  generalize hN : A 13 0 3 = N at *
  generalize hXX : sText T N S0 = X at *
  -- from the text's end on
  have K128 : ∀ (F0 F : q_F) (u : Value), gK f F0 → F0 219 1 = 0 → F0 219 3 = N → mP F0 F T N X → V D C m_mo_guild 128 [vr D 219, u] [] (Zg g h) F := by
    intro F0 F u g0 f1 f3 hP
    have fr : ∀ j k, ¬ rdC j k → ¬ (j = 219 ∧ (k = 1 ∨ k = 3)) → F j k = f j k := fun j k a b => by rw [hP.1 j k a]; exact g0 j k a b
    have c1 : F 219 1 = 0 := by rw [hP.1 _ _ (fun hr => by unfold rdC at hr; omega)]; exact f1
    cases X with
    | inl e0 =>
      have tt : mpS F T N (.inl e0) := hP.2
      have b1 := tt.2.2.2
      refine V_aload_0 d_mo_guild_128 ?_
      refine V_aload_0 d_mo_guild_129 ?_
      refine V_getI d_mo_guild_130 fl_mo_185 is_mo ?_
      rw [b1.1]
      refine V_putI d_mo_guild_133 fl_mo_319 is_mo ?_
      refine V_aload_0 d_mo_guild_136 ?_
      refine V_aload_0 d_mo_guild_137 ?_
      refine V_getI d_mo_guild_138 fl_mo_188 is_mo ?_
      rw [q_up_ne (by omega), b1.2.1]
      refine V_putI d_mo_guild_141 fl_mo_13 is_mo ?_
      refine V_aload_0 d_mo_guild_144 ?_
      refine V_getI d_mo_guild_145 fl_mo_185 is_mo ?_
      rw [q_up_ne (by omega), q_up_ne (by omega), b1.1]
      refine V_if_eq 153 d_mo_guild_148 (by decide) (by omega) (fun c148 => by omega) (fun c148 => ?_)
      refine V_iconst (-1) d_mo_guild_151 ?_
      refine V_ireturn d_mo_guild_152 (hR _ _ ?_)
      refine ⟨rfl, hS.gbad hF e0 (fun j k a b => ?_) ?_ ?_ ?_, fun j k hj => ?_, b1.2.2⟩
      · rw [q_up_ne (by omega), q_up_ne (by omega)]; exact fr j k a (by omega)
      · rw [q_up_ne (by omega), q_up_ne (by omega)]; exact c1
      · rw [q_up_ne (by omega), q_up_eq]
      · rw [q_up_eq]
      · rw [q_up_ne (by omega), q_up_ne (by omega)]; exact fr j k (fun hr => by unfold rdC at hr; omega) (by omega)
    | inr s =>
      obtain ⟨S, L, q, d⟩ := s
      have tt : mpS F T N (.inr (q, d)) := hP.2.1
      have E1 : mE F S L := hP.2.2
      have b1 := tt.2.2.2
      obtain ⟨o1, o2, o3, o4⟩ := hok S L q d rfl
      have E2 : mE (q_up (q_up F 219 7 0) 219 8 (-1)) S L := by
        obtain ⟨m1, m2, m3, m4, m5, m6, m7, m8, m9, m10⟩ := E1
        have hk : ∀ j k, ¬ j = 219 ∨ ¬ (k = 7 ∨ k = 8) → q_up (q_up F 219 7 0) 219 8 (-1) j k = F j k := fun j k hj => by rw [q_up_ne (by omega), q_up_ne (by omega)]
        refine ⟨m1.fr (fun j k hj => hk _ _ (by omega)) o1, ⟨?_, ?_, ?_, ?_, ?_⟩, m3.fr (fun k => hk _ _ (by omega)) ⟨rfl, fun _ _ _ _ => rfl⟩, m4.fr (fun k => hk _ _ (by omega)) ⟨rfl, rfl, fun _ _ _ _ => rfl⟩, m5.fr (fun k => ⟨hk _ _ (by omega), hk _ _ (by omega)⟩) ⟨rfl, rfl, fun _ _ _ _ => ⟨rfl, rfl⟩⟩, m6.fr (fun k => hk _ _ (by omega)) ⟨rfl, fun _ => rfl⟩, m7.fr (fun k => hk _ _ (by omega)) (fun _ _ _ _ => rfl), m8.fr (fun k => hk _ _ (by omega)) ⟨rfl, fun _ _ _ _ => rfl⟩, m9.fr (fun k => ⟨hk _ _ (by omega), hk _ _ (by omega), hk _ _ (by omega)⟩) ⟨rfl, fun _ => ⟨rfl, rfl⟩⟩, m10.fr (fun j k hj => hk _ _ (by omega))⟩
        · rw [hk _ _ (by decide)]; exact m2.1
        · rw [hk _ _ (by decide)]; exact m2.2.1
        · rw [hk _ _ (by decide)]; exact m2.2.2.1
        · rw [hk _ _ (by decide)]; exact m2.2.2.2.1
        · rw [hk _ _ (by decide)]; exact m2.2.2.2.2
      refine V_aload_0 d_mo_guild_128 ?_
      refine V_aload_0 d_mo_guild_129 ?_
      refine V_getI d_mo_guild_130 fl_mo_185 is_mo ?_
      rw [b1.1]
      refine V_putI d_mo_guild_133 fl_mo_319 is_mo ?_
      refine V_aload_0 d_mo_guild_136 ?_
      refine V_aload_0 d_mo_guild_137 ?_
      refine V_getI d_mo_guild_138 fl_mo_188 is_mo ?_
      rw [q_up_ne (by omega), b1.2.1]
      refine V_putI d_mo_guild_141 fl_mo_13 is_mo ?_
      refine V_aload_0 d_mo_guild_144 ?_
      refine V_getI d_mo_guild_145 fl_mo_185 is_mo ?_
      rw [q_up_ne (by omega), q_up_ne (by omega), b1.1]
      refine V_if_eq 153 d_mo_guild_148 (by decide) (by omega) (fun c148 => ?_) (fun c148 => by omega)
      refine V_aload_0 d_mo_guild_153 ?_
      refine V_cvV0 d_mo_guild_154 ml_mo_322 mv_mo_stands (by decide) (Nat.le_of_ble_eq_true rfl) is_mo (ok_stands E2 o1 o2 o3) ?_
      rintro F2 hsd
      have e46 : F2 219 46 = S 0 13 := by rw [hsd.2.2.2.2.2.2.2 _ _ (by omega)]; exact E2.2.1.2.2.2.2
      refine V_aload_0 d_mo_guild_157 ?_
      refine V_getI d_mo_guild_158 fl_mo_264 is_mo ?_
      rw [e46]
      refine V_ireturn d_mo_guild_161 (hR _ _ ?_)
      refine ⟨rfl, fun B => ?_, fun j k hj => ?_⟩
      · refine hS.guild o1 o2 E2.1 hsd (fun j k hj => ?_) ⟨?_, ?_, ?_⟩
        · rw [q_up_ne (by omega), q_up_ne (by omega)]; exact fr j k (fun hr => by unfold rdC at hr; omega) (by omega)
        · rw [q_up_ne (by omega), q_up_ne (by omega)]; exact c1
        · rw [q_up_ne (by omega), q_up_eq]
        · rw [q_up_eq]
      · rw [hsd.2.2.2.2.2.2.2 j k (by omega), q_up_ne (by omega), q_up_ne (by omega)]; exact fr j k (fun hr => by unfold rdC at hr; omega) (by omega)
  -- from the first statement on
  have K102 : ∀ (F : q_F) (u : Value), gK f F → F 219 1 = 0 → mpS F T N (.inr (sk T N 0, -1)) → mE (q_up F 219 46 0) (clrS S0) [] → V D C m_mo_guild 102 [vr D 219, u] [] (Zg g h) F := by
    intro F u g0 f1 tt E1
    have c1 : ∀ k, 0 ≤ k → k < 7 → clrS S0 1 k = 0 := fun k a b => by unfold clrS; rw [if_neg (by omega), if_pos ⟨rfl, a, b⟩]
    have c13 : clrS S0 0 13 = 0 := by unfold clrS; rw [if_pos ⟨rfl, Or.inl rfl⟩]
    have hwF : mW F := fun i hi k hk => by rw [g0 _ _ (fun hr => by unfold rdC at hr; omega) (by omega)]; exact hw i hi k hk
    have hpr := tt.pr
    have otr := ok_traitsTold (D := D) (g := g) (h := h) tt hwF E1 (pW_clr S0) (c1 0 (by decide) (by decide)) (c1 1 (by decide) (by decide)) (c1 2 (by decide) (by decide)) c13
    cases hr : sEnd T N (sStm true (clrS S0) T N [] (sk T N 0) (-1)) with
    | inl e0 =>
      rw [hr] at hX otr
      have hX : X = .inl e0 := hX
      have bad : ∀ F2 : q_F, mP F F2 T N (.inl e0) → V D C m_mo_guild 106 [vr D 219, u] [] (Zg g h) F2 := by
        intro F2 hP
        have b1 := hP.2.2.2.2
        refine V_aload_0 d_mo_guild_106 ?_
        refine V_getI d_mo_guild_107 fl_mo_185 is_mo ?_
        rw [b1.1]
        refine V_if_ne 128 d_mo_guild_110 (by decide) (by omega) (fun c110 => ?_) (fun c110 => by omega)
        exact K128 F F2 _ g0 f1 tt.2.1 (by rw [hX]; exact hP)
      refine V_aload_0 d_mo_guild_102 ?_
      refine V_cvV0 d_mo_guild_103 ml_mo_313 mv_mo_traitsTold (by decide) (Nat.le_of_ble_eq_true rfl) is_mo (otr) ?_
      rintro F2 hP
      exact bad F2 hP
    | inr s =>
      obtain ⟨S2, L2, q2, d2⟩ := s
      obtain ⟨S1, q1, d1, r1, r2, r3⟩ := sEnd_in hr
      have k1 := sStm_ok true (pW_clr S0) (fun _ => c1 0 (by decide) (by decide)) hpr.1 hpr.2.1 hpr.2.2.2.1.2 (by show (0 : Int) ≤ _; omega) r1
      have k2 := pX.stm true (pX_clr S0) (pW_clr S0) (fun _ => ⟨c1 0 (by decide) (by decide), c1 1 (by decide) (by decide), c1 2 (by decide) (by decide)⟩) hpr.1 hpr.2.1 hpr.2.2.2.1.2 r1
      have k3 := l_sign_some (by decide) r2
      rw [hr] at hX otr
      have hX : X = sLoop T N 89 S2 L2 q2 d2 := hX
      refine V_aload_0 d_mo_guild_102 ?_
      refine V_cvV0 d_mo_guild_103 ml_mo_313 mv_mo_traitsTold (by decide) (Nat.le_of_ble_eq_true rfl) is_mo (otr) ?_
      rintro F2 hP
      exact mo_gloop (F0 := F) hwF (X := X) (fun F3 hP3 => K128 F F3 _ g0 f1 tt.2.1 hP3) 89 S2 L2 q2 d2 F2 (by rw [r3, q_up_eq, k2.2, c13]; decide) (by rw [r3, q_up_eq, k2.2, c13]; decide) hP.2.1 hP.2.2 (by rw [r3]; exact k1.1.up2 (Or.inl rfl)) (by rw [r3]; exact k2.1.num (Or.inl rfl)) (by omega) hP.1 hX
  -- roads
  have K66 : ∀ (m : Nat) (k : Int) (F : q_F), k + m = 64 → 0 ≤ k → gK f F → F 219 1 = 0 → mpS F T N (.inr (sk T N 0, -1)) → (∀ i, 0 ≤ i → i < 7 → F 246 i = 0) → F 219 44 = 0 → F 219 48 = 0 → (∀ i, 0 ≤ i → i < k → F 253 i = if i / 8 = i % 8 then 0 else 1000) → V D C m_mo_guild 66 [vr D 219, vi k] [] (Zg g h) F := by
    intro m
    induction m with
    | zero =>
      intro k F km k0 g0 f1 tt hc h44 h48 hro
      have c1 : ∀ k, 0 ≤ k → k < 7 → clrS S0 1 k = 0 := fun k a b => by unfold clrS; rw [if_neg (by omega), if_pos ⟨rfl, a, b⟩]
      have z : ∀ j k, ¬ (j = 219 ∧ k = 46) → q_up F 219 46 0 j k = F j k := fun j k hj => q_up_ne (by omega)
      refine V_iload_1 d_mo_guild_66 ?_
      refine V_bipush 64 d_mo_guild_67 (by decide) ?_
      refine V_icmp_ge 102 d_mo_guild_69 (by decide) (by omega) (by omega) (fun c69 => ?_) (fun c69 => by omega)
      refine K102 F _ g0 f1 tt ?_
      refine ⟨⟨fun i i0 i1 => ?_, fun i w i0 i1 w0 w1 => ?_⟩, ⟨?_, ?_, ?_, ?_, ?_⟩, fun t w t0 t1' => ?_, fun t w t0 t1' => ?_, fun t w t0 t1' => ?_, fun t t0 t1' => ?_, fun a b a0 a1 b0 b1 => ?_, fun t w t0 t1' => ?_, fun t t0 t1' => ?_, ?_⟩
      · rw [z _ _ (by omega), c1 i i0 (by omega)]; exact hc i i0 (by omega)
      · rw [c1 i i0 (by omega)] at w1; omega
      · rw [z _ _ (by omega), c1 _ (by decide) (by decide)]; exact hc _ (by decide) (by decide)
      · rw [z _ _ (by omega), c1 _ (by decide) (by decide)]; exact hc _ (by decide) (by decide)
      · rw [z _ _ (by omega), c1 _ (by decide) (by decide)]; exact hc _ (by decide) (by decide)
      · rw [z _ _ (by omega), h44]; unfold clrS; rw [if_pos ⟨rfl, Or.inr rfl⟩]
      · rw [q_up_eq]; unfold clrS; rw [if_pos ⟨rfl, Or.inl rfl⟩]
      · rw [c1 _ (by decide) (by decide)] at t1'; omega
      · rw [c1 _ (by decide) (by decide)] at t1'; omega
      · rw [c1 _ (by decide) (by decide)] at t1'; omega
      · rw [c1 _ (by decide) (by decide)] at t1'; omega
      · rw [z _ _ (by omega), hro _ (by omega) (by omega), show (8 * a + b) / 8 = a by omega, show (8 * a + b) % 8 = b by omega]
        have ec : clrS S0 (37 + a) b = if a = b then 0 else 1000 := by unfold clrS; rw [if_neg (by omega), if_neg (by omega), if_pos (by omega), show 37 + a - 37 = a by omega]
        exact ec.symm
      · rw [c1 _ (by decide) (by decide)] at t1'; omega
      · rw [c1 _ (by decide) (by decide)] at t1'; omega
      · exact ⟨by rw [z _ _ (by omega)]; exact h48, fun k hk => absurd hk (Nat.not_lt_zero _)⟩
    | succ m ih =>
      intro k F km k0 g0 f1 tt hc h44 h48 hro
      have nx : ∀ v : Int, v = (if k / 8 = k % 8 then 0 else 1000) → V D C m_mo_guild 66 [vr D 219, vi (k + 1)] [] (Zg g h) (q_up F 253 k v) := fun v hv => by
        refine ih (k + 1) _ (by push_cast at km; omega) (by omega) (fun j i a b => ?_) (by rw [q_up_ne (by omega)]; exact f1) (tt.fr (fun j i hj => q_up_ne (by omega))) (fun i i0 i1 => by rw [q_up_ne (by omega)]; exact hc i i0 i1) (by rw [q_up_ne (by omega)]; exact h44) (by rw [q_up_ne (by omega)]; exact h48) (fun i i0 i1 => ?_)
        · have hne : j ≠ 253 ∨ i ≠ k := by
            by_cases ej : j = 253
            · refine Or.inr (fun ei => a ?_)
              rw [ej, ei]; exact rd253 (by push_cast at km; omega)
            · exact Or.inl ej
          rw [q_up_ne hne]; exact g0 j i a b
        · by_cases ei : i = k
          · rw [ei, q_up_eq, hv]
          · rw [q_up_ne (by omega)]; exact hro i i0 (by omega)
      refine V_iload_1 d_mo_guild_66 ?_
      refine V_bipush 64 d_mo_guild_67 (by decide) ?_
      refine V_icmp_ge 102 d_mo_guild_69 (by decide) (by omega) (by omega) (fun c69 => by omega) (fun c69 => ?_)
      refine V_aload_0 d_mo_guild_72 ?_
      refine V_getR d_mo_guild_73 fl_mo_115 is_mo r_mo_roads ?_
      refine V_iload_1 d_mo_guild_76 ?_
      refine V_iload_1 d_mo_guild_77 ?_
      refine V_bipush 8 d_mo_guild_78 (by decide) ?_
      refine V_idiv d_mo_guild_80 (by omega) (by omega) ?_
      refine V_iload_1 d_mo_guild_81 ?_
      refine V_bipush 8 d_mo_guild_82 (by decide) ?_
      refine V_irem d_mo_guild_84 (by omega) (by omega) ?_
      refine V_icmp_ne 92 d_mo_guild_85 (by decide) (by omega) (by omega) (fun c85 => ?_) (fun c85 => ?_)
      · skip
        refine V_sipush 1000 d_mo_guild_92 (by decide) ?_
        refine V_iast d_mo_guild_95 is_mo_roads (by omega) (by omega) ?_
        refine V_iinc_1 d_mo_guild_96 rfl ?_
        refine V_goto 66 d_mo_guild_99 (by decide) ?_
        exact nx _ (if_neg c85).symm
      · skip
        refine V_iconst 0 d_mo_guild_88 ?_
        refine V_goto 95 d_mo_guild_89 (by decide) ?_
        refine V_iast d_mo_guild_95 is_mo_roads (by omega) (by omega) ?_
        refine V_iinc_1 d_mo_guild_96 rfl ?_
        refine V_goto 66 d_mo_guild_99 (by decide) ?_
        exact nx _ (if_pos (by omega)).symm
  -- counts
  have K45 : ∀ (m : Nat) (k : Int) (F : q_F), k + m = 7 → 0 ≤ k → gK f F → F 219 1 = 0 → mpS F T N (.inr (sk T N 0, -1)) → (∀ i, 0 ≤ i → i < k → F 246 i = 0) → F 219 44 = 0 → F 219 48 = 0 → V D C m_mo_guild 45 [vr D 219, vi k] [] (Zg g h) F := by
    intro m
    induction m with
    | zero =>
      intro k F km k0 g0 f1 tt hc h44 h48
      refine V_iload_1 d_mo_guild_45 ?_
      refine V_bipush 7 d_mo_guild_46 (by decide) ?_
      refine V_icmp_ge 64 d_mo_guild_48 (by decide) (by omega) (by omega) (fun c48 => ?_) (fun c48 => by omega)
      refine V_iconst 0 d_mo_guild_64 ?_
      refine V_istore_1 d_mo_guild_65 rfl ?_
      exact K66 64 _ F (by decide) (by decide) g0 f1 tt (fun i i0 i1 => hc i i0 (by omega)) h44 h48 (fun i i0 i1 => by omega)
    | succ m ih =>
      intro k F km k0 g0 f1 tt hc h44 h48
      refine V_iload_1 d_mo_guild_45 ?_
      refine V_bipush 7 d_mo_guild_46 (by decide) ?_
      refine V_icmp_ge 64 d_mo_guild_48 (by decide) (by omega) (by omega) (fun c48 => by omega) (fun c48 => ?_)
      refine V_aload_0 d_mo_guild_51 ?_
      refine V_getR d_mo_guild_52 fl_mo_93 is_mo r_mo_many ?_
      refine V_iload_1 d_mo_guild_55 ?_
      refine V_iconst 0 d_mo_guild_56 ?_
      refine V_iast d_mo_guild_57 is_mo_many (by omega) (by omega) ?_
      refine V_iinc_1 d_mo_guild_58 rfl ?_
      refine V_goto 45 d_mo_guild_61 (by decide) ?_
      refine ih (k + 1) _ (by push_cast at km; omega) (by omega) (fun j i a b => ?_) (by rw [q_up_ne (by omega)]; exact f1) (tt.fr (fun j i hj => q_up_ne (by omega))) (fun i i0 i1 => ?_) (by rw [q_up_ne (by omega)]; exact h44) (by rw [q_up_ne (by omega)]; exact h48)
      · have hne : j ≠ 246 ∨ i ≠ k := by
          by_cases ej : j = 246
          · refine Or.inr (fun ei => a ?_)
            rw [ej, ei]; exact rd246 (by push_cast at km; omega)
          · exact Or.inl ej
        rw [q_up_ne hne]; exact g0 j i a b
      · by_cases ei : i = k
        · rw [ei, q_up_eq]
        · rw [q_up_ne (by omega)]; exact hc i i0 (by omega)
  have up : ∀ (F : q_F) (k x : Int), gK f F → (k = 1 ∨ k = 2 ∨ k = 3 ∨ k = 4 ∨ k = 5 ∨ k = 6 ∨ k = 44 ∨ k = 48) → gK f (q_up F 219 k x) := fun F k x hg hk j i a b => by
    have hne : j ≠ 219 ∨ i ≠ k := by
      by_cases ej : j = 219
      · refine Or.inr (fun ei => ?_)
        rw [ej, ei] at a b
        by_cases e13 : k = 1 ∨ k = 3
        · exact b ⟨rfl, e13⟩
        · exact a (rd219 (by omega))
      · exact Or.inl ej
    rw [q_up_ne hne]; exact hg j i a b
  have g0 : gK f f := fun _ _ _ _ => rfl
  refine V_aload_0 d_mo_guild_0 ?_
  refine V_aload_0 d_mo_guild_1 ?_
  refine V_getI d_mo_guild_2 fl_mo_182 is_mo ?_
  rw [t1]
  refine V_putI d_mo_guild_5 fl_mo_194 is_mo ?_
  refine V_aload_0 d_mo_guild_8 ?_
  refine V_iconst 0 d_mo_guild_9 ?_
  refine V_putI d_mo_guild_10 fl_mo_182 is_mo ?_
  refine V_aload_0 d_mo_guild_13 ?_
  refine V_iconst 0 d_mo_guild_14 ?_
  refine V_putI d_mo_guild_15 fl_mo_191 is_mo ?_
  refine V_aload_0 d_mo_guild_18 ?_
  refine V_iconst (-1) d_mo_guild_19 ?_
  refine V_putI d_mo_guild_20 fl_mo_205 is_mo ?_
  refine V_aload_0 d_mo_guild_23 ?_
  refine V_iconst 0 d_mo_guild_24 ?_
  refine V_putI d_mo_guild_25 fl_mo_185 is_mo ?_
  refine V_aload_0 d_mo_guild_28 ?_
  refine V_iconst (-1) d_mo_guild_29 ?_
  refine V_putI d_mo_guild_30 fl_mo_188 is_mo ?_
  refine V_aload_0 d_mo_guild_33 ?_
  refine V_iconst 0 d_mo_guild_34 ?_
  refine V_putI d_mo_guild_35 fl_mo_274 is_mo ?_
  refine V_aload_0 d_mo_guild_38 ?_
  refine V_iconst 0 d_mo_guild_39 ?_
  refine V_putI d_mo_guild_40 fl_mo_310 is_mo ?_
  refine V_iconst 0 d_mo_guild_43 ?_
  refine V_istore_1 d_mo_guild_44 rfl ?_
  refine K45 7 _ _ (by decide) (by decide) (up _ _ _ (up _ _ _ (up _ _ _ (up _ _ _ (up _ _ _ (up _ _ _ (up _ _ _ (up _ _ _ g0 (by decide)) (by decide)) (by decide)) (by decide)) (by decide)) (by decide)) (by decide)) (by decide)) ?_ ?_ (fun i i0 i1 => by omega) ?_ ?_
  · rw [q_up_ne (by omega), q_up_ne (by omega), q_up_ne (by omega), q_up_ne (by omega), q_up_ne (by omega), q_up_ne (by omega), q_up_eq]
  · refine ⟨hTW, ?_, fun k k0 k1 => ?_, ?_, ?_, ?_, ?_, ?_, ?_⟩
    · rw [q_up_ne (by omega), q_up_ne (by omega), q_up_ne (by omega), q_up_ne (by omega), q_up_ne (by omega), q_up_ne (by omega), q_up_ne (by omega), q_up_eq]
    · rw [q_up_at (by decide), q_up_at (by decide), q_up_at (by decide), q_up_at (by decide), q_up_at (by decide), q_up_at (by decide), q_up_at (by decide), q_up_at (by decide), ← hT]; exact t2 k k0 k1
    · rw [q_up_ne (by omega), q_up_ne (by omega), q_up_ne (by omega), q_up_eq]
    · rw [q_up_ne (by omega), q_up_ne (by omega), q_up_eq]
    · rw [q_up_ne (by omega), q_up_ne (by omega), q_up_ne (by omega), q_up_ne (by omega), q_up_ne (by omega), q_up_eq]; exact ⟨Int.le_refl _, hTW.1.1⟩
    · rw [q_up_ne (by omega), q_up_ne (by omega), q_up_ne (by omega), q_up_ne (by omega), q_up_ne (by omega), q_up_eq]
    · rw [q_up_ne (by omega), q_up_ne (by omega), q_up_ne (by omega), q_up_ne (by omega), q_up_eq]
    · have := hTW.1; omega
  · rw [q_up_eq]
  · rw [q_up_ne (by omega), q_up_eq]
end MOG2
