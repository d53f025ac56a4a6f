/-! the class reads rules: as rd says -/
def ccd (c : Int) : Int := if 1000 ≤ c then c - 1000 else if c = 1 then -43 else if c = 2 then -45 else if c = 3 then -42 else if c = 4 then -47 else if c = 5 then -223 else if c = 6 then -224 else if c = 7 then -203 else if c = 8 then -209 else if c = 9 then -210 else if c = 10 then -220 else if c = 11 then -60 else if c = 12 then -62 else if c = 13 then -61 else if c = 14 then -217 else if c = 15 then -216 else if c = 16 then -218 else if c = 17 then -219 else if c = 18 then -221 else -222
/-- the codes in the class's cells -/
def cdS (f : q_F) (L : List Int) : Prop := f 4 2 = L.length ∧ ∀ k : Nat, k < L.length → f 5 k = ccd (L.getD k 0)
def rK (f f' : q_F) : Prop := ∀ j k, ¬ j = 1 → ¬ j = 5 → ¬ (j = 4 ∧ k = 2) → f' j k = f j k
def cR (f f' : q_F) (T : Int → Int) (N x : Int) (L : List Int) (r : q_R (List Int × Int × Int)) : Prop := match r with
  | .inl e => x = 0 ∧ f' 1 3 = e.1 ∧ f' 1 4 = e.2 ∧ rK f f'
  | .inr s => x = 1 ∧ tpS f' T N s.2.1 s.2.2 ∧ cdS f' (L ++ s.1) ∧ f' 1 3 = f 1 3 ∧ f' 1 4 = f 1 4 ∧ rK f f'
def rpre (c : List Int) (r : q_R (List Int × Int × Int)) : q_R (List Int × Int × Int) := match r with
  | .inl e => .inl e
  | .inr s => .inr (c ++ s.1, s.2)
section RU1
variable {D : q_D} {f f' : q_F} {A : q_As} {g h : Int} {T : Int → Int} {N p e : Int}
theorem rK.refl (f : q_F) : rK f f := fun _ _ _ _ _ => rfl
theorem cK.r (h : cK f f') : rK f f' := fun j k a _ _ => h j k a
theorem rK.tr {f'' : q_F} (h : rK f f') (h2 : rK f' f'') : rK f f'' := fun j k a b c => by rw [h2 j k a b c]; exact h j k a b c
theorem cdS.fr {L : List Int} (hc : cdS f L) (h : cK f f') : cdS f' L := ⟨by rw [h _ _ (by decide)]; exact hc.1, fun k hk => by rw [h _ _ (by decide)]; exact hc.2 k hk⟩
theorem tpS.fr (hT : tpS f T N p e) (hf : ∀ j k, j = 1 ∨ j = 2 → f' j k = f j k) : tpS f' T N p e := by
  obtain ⟨h0, h1, h2, h3, h4, h5, h6⟩ := hT
  exact ⟨h0, by rw [hf _ _ (by decide)]; exact h1, fun k k0 k1 => by rw [hf _ _ (by decide)]; exact h2 k k0 k1, by rw [hf _ _ (by decide)]; exact h3, by rw [hf _ _ (by decide)]; exact h4, by rw [hf _ _ (by decide)]; exact h5, h6⟩
theorem cR.rpre {F : q_F} {x : Int} {L c : List Int} {r : q_R (List Int × Int × Int)} (h : cR F f' T N x (L ++ c) r) (hk : rK f F) (h3 : F 1 3 = f 1 3) (h4 : F 1 4 = f 1 4) : cR f f' T N x L (rpre c r) := by
  cases r with
  | inl e => exact ⟨h.1, h.2.1, h.2.2.1, hk.tr h.2.2.2⟩
  | inr s =>
    obtain ⟨a1, a2, a3, a4, a5, a6⟩ := h
    exact ⟨a1, a2, by rw [List.append_assoc] at a3; exact a3, by rw [a4, h3], by rw [a5, h4], hk.tr a6⟩
theorem gd_l {L c : List Int} {k : Nat} (hk : k < L.length) : (L ++ c).getD k 0 = L.getD k 0 := by
  rw [List.getD_eq_getElem?_getD, List.getD_eq_getElem?_getD, List.getElem?_append_left hk]
theorem gd_r (L : List Int) (c : Int) : (L ++ [c]).getD L.length 0 = c := by
  rw [List.getD_eq_getElem?_getD, List.getElem?_append_right (Nat.le_refl _), Nat.sub_self]; rfl
theorem ok_emit {L : List Int} (hc : cdS f L) (hL : L.length < 1600) {c w : Int} (hw : ccd c = w) : OkI D m_ru_emit [vr D 4, vi w] (Zg g h) f (fun x f' => x = 1 ∧ cdS f' (L ++ [c]) ∧ ∀ j k, ¬ j = 5 → ¬ (j = 4 ∧ k = 2) → f' j k = f j k) := by
  subst hw
  refine OkB_of (L0 := [vr D 4, vi (ccd c)]) mi_ru_emit rfl rfl (Nat.le_of_ble_eq_true rfl) (fun C hR => ?_)
  refine V_aload_0 d_ru_emit_0 ?_
  refine V_getI d_ru_emit_1 fl_ru_33 is_ru ?_
  rw [hc.1]
  refine V_sipush 1600 d_ru_emit_4 (by decide) ?_
  refine V_icmp_ge 30 d_ru_emit_7 (by decide) (by omega) (by omega) (fun c7 => by omega) (fun c7 => ?_)
  refine V_aload_0 d_ru_emit_10 ?_
  refine V_getR d_ru_emit_11 fl_ru_9 is_ru r_ru_code ?_
  refine V_aload_0 d_ru_emit_14 ?_
  refine V_getI d_ru_emit_15 fl_ru_33 is_ru ?_
  rw [hc.1]
  refine V_iload_1 d_ru_emit_18 ?_
  refine V_iast d_ru_emit_19 is_ru_code (by omega) (by omega) ?_
  refine V_aload_0 d_ru_emit_20 ?_
  refine V_dup d_ru_emit_21 rfl ?_
  refine V_getI d_ru_emit_22 fl_ru_33 is_ru ?_
  rw [q_up_at (by decide), hc.1]
  refine V_iconst 1 d_ru_emit_25 ?_
  refine V_iadd d_ru_emit_26 ?_
  refine V_putI d_ru_emit_27 fl_ru_33 is_ru ?_
  refine V_iconst 1 d_ru_emit_30 ?_
  refine V_ireturn d_ru_emit_31 (hR _ _ (by decide) ?_)
  refine ⟨rfl, ⟨?_, fun k hk => ?_⟩, fun j k a b => by rw [q_up_ne (by omega), q_up_at a]⟩
  · rw [q_up_eq, List.length_append]; rfl
  · rw [List.length_append] at hk
    simp only [List.length_cons, List.length_nil] at hk
    rw [q_up_at (by decide)]
    by_cases e : k = L.length
    · subst e
      rw [q_up_eq, gd_r]
    · rw [q_up_ne (Or.inr (by omega)), gd_l (by omega)]
      exact hc.2 k (by omega)
theorem ok_mayOpen {w o : Int} (hw : f 1 2 = w) (ho : 0 ≤ o ∧ o ≤ 6) : OkI D m_ru_mayOpen [vr D 4, vi o] (Zg g h) f (fun x f' => (x = 1 ∧ o < 6 ∧ f' = f) ∨ (x = 0 ∧ ¬ o < 6 ∧ f' = q_up (q_up f 1 3 4) 1 4 w)) := by
  refine OkB_of (L0 := [vr D 4, vi o]) mi_ru_mayOpen rfl rfl (Nat.le_of_ble_eq_true rfl) (fun C hR => ?_)
  refine V_iload_1 d_ru_mayOpen_0 ?_
  refine V_bipush 6 d_ru_mayOpen_1 (by decide) ?_
  refine V_icmp_lt 24 d_ru_mayOpen_3 (by decide) (by omega) (by omega) (fun c3 => ?_) (fun c3 => ?_)
  · skip
    refine V_iconst 1 d_ru_mayOpen_24 ?_
    refine V_goto 29 d_ru_mayOpen_25 (by decide) ?_
    refine V_ireturn d_ru_mayOpen_29 (hR _ _ (by decide) ?_)
    exact Or.inl ⟨rfl, by omega, rfl⟩
  · skip
    refine V_aload_0 d_ru_mayOpen_6 ?_
    refine V_getR d_ru_mayOpen_7 fl_ru_29 is_ru r_ru_tape ?_
    refine V_iconst 4 d_ru_mayOpen_10 ?_
    refine V_aload_0 d_ru_mayOpen_11 ?_
    refine V_getR d_ru_mayOpen_12 fl_ru_29 is_ru r_ru_tape ?_
    refine V_getI d_ru_mayOpen_15 fl_ru_105 is_tp ?_
    rw [hw]
    refine V_cvI2 d_ru_mayOpen_18 ml_ru_108 mv_tp_fail (by decide) (Nat.le_of_ble_eq_true rfl) is_tp (ok_tfail (by decide)) ?_
    rintro x f9 ⟨hx, e9⟩
    rw [hx, e9]; clear hx e9 f9
    refine V_if_eq 28 d_ru_mayOpen_21 (by decide) (by omega) (fun c21 => ?_) (fun c21 => by omega)
    refine V_iconst 0 d_ru_mayOpen_28 ?_
    refine V_ireturn d_ru_mayOpen_29 (hR _ _ (by decide) ?_)
    exact Or.inr ⟨rfl, by omega, rfl⟩
/-- a method reads as rd does in a mode, with n steps -/
def okR (D : q_D) (g h : Int) (T : Int → Int) (N : Int) (M : Nat → q_M) (nd mode n : Nat) : Prop := ∀ (d : Nat) (f : q_F) (L : List Int) (o p e : Int) (r : q_R (List Int × Int × Int)), (0 ≤ o ∧ o ≤ 6) → nd + 4 * (6 - o).toNat ≤ d → tpS f T N p e → cdS f L → (L.length : Int) ≤ p → rd T N n mode o p e = some r → OkI D (M d) [vr D 4, vi o] (Zg g h) f (fun x f' => cR f f' T N x L r)
theorem ob_inl {x : q_O} {k : List Int → Int → Int → q_O} {r : q_R (List Int × Int × Int)} {e : Int × Int} (h : ob x k = some r) (hx : x = some (.inl e)) : r = .inl e := by
  subst hx; cases h; rfl
theorem ob_inr {x : q_O} {k : List Int → Int → Int → q_O} {r : q_R (List Int × Int × Int)} {s : List Int × Int × Int} (h : ob x k = some r) (hx : x = some (.inr s)) : k s.1 s.2.1 s.2.2 = some r := by
  subst hx; exact h
theorem ob_cases {x : q_O} {k : List Int → Int → Int → q_O} {r : q_R (List Int × Int × Int)} (h : ob x k = some r) : (∃ e, x = some (.inl e) ∧ r = .inl e) ∨ ∃ c q d, x = some (.inr (c, q, d)) ∧ k c q d = some r := by
  match x, h with
  | none, h => cases h
  | some (.inl e), h => cases h; exact Or.inl ⟨e, rfl, rfl⟩
  | some (.inr (c, q, d)), h => exact Or.inr ⟨c, q, d, rfl, h⟩
theorem os_cases {x : q_R (Int × Int)} {k : Int → Int → q_O} {r : q_R (List Int × Int × Int)} (h : os x k = some r) : (∃ e, x = .inl e ∧ r = .inl e) ∨ ∃ q d, x = .inr (q, d) ∧ k q d = some r := by
  match x, h with
  | .inl e, h => cases h; exact Or.inl ⟨e, rfl, rfl⟩
  | .inr (q, d), h => exact Or.inr ⟨q, d, rfl, h⟩
theorem ob_pre {x : q_O} {u : List Int} {r : q_R (List Int × Int × Int)} (h : ob x (fun c q d => some (.inr (u ++ c, q, d))) = some r) : ∃ r5, x = some r5 ∧ r = rpre u r5 := by
  rcases ob_cases h with ⟨e, h1, h2⟩ | ⟨c, q, d, h1, h2⟩
  · exact ⟨_, h1, h2⟩
  · cases h2; exact ⟨_, h1, rfl⟩
theorem pre_pre (u v : List Int) (r : q_R (List Int × Int × Int)) : rpre u (rpre v r) = rpre (u ++ v) r := by
  cases r with
  | inl e => rfl
  | inr s => show Sum.inr (u ++ (v ++ s.1), s.2) = Sum.inr ((u ++ v) ++ s.1, s.2); rw [List.append_assoc]
theorem app_one (u c : List Int) (x : Int) : u ++ (x :: c) = (u ++ [x]) ++ c := by simp
theorem ob_pre1 {x : q_O} {u : List Int} {y : Int} {r : q_R (List Int × Int × Int)} (h : ob x (fun c q d => some (.inr (u ++ (y :: c), q, d))) = some r) : ∃ r5, x = some r5 ∧ r = rpre (u ++ [y]) r5 := by
  rcases ob_cases h with ⟨e, h1, h2⟩ | ⟨c, q, d, h1, h2⟩
  · exact ⟨_, h1, h2⟩
  · cases h2; exact ⟨_, h1, by show Sum.inr _ = Sum.inr _; rw [app_one]⟩
theorem cO_inr {x : Int} {r : q_R (Int × Int)} {q d : Int} (h : cO f f' T N x r) (hr : r = .inr (q, d)) : x = 1 ∧ tpS f' T N q d ∧ f' 1 3 = f 1 3 ∧ f' 1 4 = f 1 4 ∧ cK f f' := by subst hr; exact h
theorem cO_inl {x : Int} {r : q_R (Int × Int)} {e : Int × Int} (h : cO f f' T N x r) (hr : r = .inl e) : x = 0 ∧ f' 1 3 = e.1 ∧ f' 1 4 = e.2 ∧ cK f f' := by subst hr; exact h
theorem ok_readProduct {n : Nat} (hP : ∀ k, k ≤ n → okR D g h T N m_ru_readPart 11 0 k) : okR D g h T N m_ru_readProduct 12 1 (n + 1) := by
  intro d0 f L o p e r ho hd hT hc hL hr
  obtain ⟨d, rfl⟩ : ∃ d, d0 = d + 1 := ⟨d0 - 1, by omega⟩
  have hd10 : 10 ≤ d + 1 := by omega
  have hp := hT.pr
  refine OkB_of (L0 := [vr D 4, vi o, vu, vu]) mi0_ru_readProduct rfl rfl (Nat.le_of_ble_eq_true rfl) (fun C hR => ?_)
  have loop : ∀ (k : Nat) (F : q_F) (q e1 i : Int) (c0 : List Int) (r2 : q_R (List Int × Int × Int)) (u : Value), k ≤ n → rd T N k 2 o q e1 = some r2 → r = rpre c0 r2 → tpS F T N q e1 → cdS F (L ++ c0) → ((L ++ c0).length : Int) ≤ q → rK f F → F 1 3 = f 1 3 → F 1 4 = f 1 4 → 0 ≤ i → i + 1 ≤ q → V D C (m_ru_readProduct (d + 1)) 12 [vr D 4, vi o, vi i, u] [] (Zg g h) F := by
    intro k
    induction k with
    | zero => intro F q e1 i c0 r2 u hk hr2; cases hr2
    | succ k ih =>
      intro F q e1 i c0 r2 u hk hr2 hrr hT2 hc2 hL2 hf f3 f4 hi hiq
      have hp2 := hT2.pr
      have hlk := lk_rg hT2.1 hp2.1
      have hr3 : (if lk T N q = 42 ∨ lk T N q = 47 then ob (rd T N k 0 o (sk T N (q + 1)) e1) (fun c q3 r => ob (rd T N k 2 o q3 r) (fun c2 q4 r => some (.inr (c ++ ((if lk T N q = 42 then 3 else 4) :: c2), q4, r)))) else some (.inr ([], q, e1))) = some r2 := hr2
      have hpl : tpS (q_up F 1 2 q) T N q e1 := hT2.pl
      have hpc : cdS (q_up F 1 2 q) (L ++ c0) := hc2.fr (cK.refl F).up
      have g3 : (q_up F 1 2 q) 1 3 = f 1 3 := by rw [q_up_ne (Or.inr (by decide))]; exact f3
      have g4 : (q_up F 1 2 q) 1 4 = f 1 4 := by rw [q_up_ne (Or.inr (by decide))]; exact f4
      have hf1 : rK f (q_up F 1 2 q) := hf.tr (cK.refl F).up.r
      by_cases hs : lk T N q = 42 ∨ lk T N q = 47
      · rw [if_pos hs] at hr3
        have hqN : q < N := by rcases hs with hs | hs <;> exact (lk_of (by decide) hs).1
        have hsg : l_sign T N (lk T N q) q e1 = .inr (sk T N (q + 1), e1) := by unfold l_sign; rw [if_pos rfl]
        have hsk := sk_ge (T := T) hqN
        have K41 : V D C (m_ru_readProduct (d + 1)) 41 [vr D 4, vi o, vi i, vi (lk T N q)] [] (Zg g h) (q_up F 1 2 q) := by
          rcases ob_cases hr3 with ⟨e0, h1, h2⟩ | ⟨cp, q3, d3, h1, h2⟩
          · subst h2
            refine V_aload_0 (d_ru_readProduct_41 (d+1)) ?_
            refine V_getR (d_ru_readProduct_42 (d+1)) fl_ru_29 is_ru r_ru_tape ?_
            refine V_iload_3 (d_ru_readProduct_45 (d+1)) ?_
            refine V_cvI1 (d_ru_readProduct_46 (d+1)) ml_ru_80 mv_tp_takeSign (Nat.le_trans (by decide) hd10) (Nat.le_of_ble_eq_true rfl) is_tp (ok_takeSign hpl (by omega)) ?_
            rintro x F3 hx
            obtain ⟨rfl, t3, a3, a4, k3⟩ := cO_inr hx hsg
            refine V_if_eq 60 (d_ru_readProduct_49 (d+1)) (by decide) (by omega) (fun c49 => by omega) (fun c49 => ?_)
            refine V_aload_0 (d_ru_readProduct_52 (d+1)) ?_
            refine V_iload_1 (d_ru_readProduct_53 (d+1)) ?_
            refine V_cvI1 (d_ru_readProduct_54 (d+1)) (ml_ru_89 d) (mv_ru_readPart d) (Nat.le_refl _) (Nat.le_of_ble_eq_true rfl) is_ru (hP k (by omega) d F3 (L ++ c0) o _ e1 _ ho (by omega) t3 (hpc.fr k3) (by omega) h1) ?_
            rintro x4 F4 ⟨rfl, b1, b2, b3⟩
            refine V_if_ne 62 (d_ru_readProduct_57 (d+1)) (by decide) (by omega) (fun c57 => by omega) (fun c57 => ?_)
            refine V_iconst 0 (d_ru_readProduct_60 (d+1)) ?_
            refine V_ireturn (d_ru_readProduct_61 (d+1)) (hR _ _ (by decide) ?_)
            rw [hrr]
            exact ⟨rfl, b1, b2, (hf1.tr k3.r).tr b3⟩
          · have hl1 := rd_len k 0 o _ _ _ _ _ hsk.2 h1
            obtain ⟨r5, h5, h6⟩ := ob_pre1 h2
            refine V_aload_0 (d_ru_readProduct_41 (d+1)) ?_
            refine V_getR (d_ru_readProduct_42 (d+1)) fl_ru_29 is_ru r_ru_tape ?_
            refine V_iload_3 (d_ru_readProduct_45 (d+1)) ?_
            refine V_cvI1 (d_ru_readProduct_46 (d+1)) ml_ru_80 mv_tp_takeSign (Nat.le_trans (by decide) hd10) (Nat.le_of_ble_eq_true rfl) is_tp (ok_takeSign hpl (by omega)) ?_
            rintro x F3 hx
            obtain ⟨rfl, t3, a3, a4, k3⟩ := cO_inr hx hsg
            refine V_if_eq 60 (d_ru_readProduct_49 (d+1)) (by decide) (by omega) (fun c49 => by omega) (fun c49 => ?_)
            refine V_aload_0 (d_ru_readProduct_52 (d+1)) ?_
            refine V_iload_1 (d_ru_readProduct_53 (d+1)) ?_
            refine V_cvI1 (d_ru_readProduct_54 (d+1)) (ml_ru_89 d) (mv_ru_readPart d) (Nat.le_refl _) (Nat.le_of_ble_eq_true rfl) is_ru (hP k (by omega) d F3 (L ++ c0) o _ e1 _ ho (by omega) t3 (hpc.fr k3) (by omega) h1) ?_
            rintro x4 F4 ⟨rfl, t4, cd4, a5, a6, k4⟩
            refine V_if_ne 62 (d_ru_readProduct_57 (d+1)) (by decide) (by omega) (fun c57 => ?_) (fun c57 => by omega)
            refine V_aload_0 (d_ru_readProduct_62 (d+1)) ?_
            refine V_iload_3 (d_ru_readProduct_63 (d+1)) ?_
            refine V_ineg (d_ru_readProduct_64 (d+1)) ?_
            refine V_cvI1 (d_ru_readProduct_65 (d+1)) ml_ru_60 mv_ru_emit (Nat.le_trans (by decide) hd10) (Nat.le_of_ble_eq_true rfl) is_ru (ok_emit (c := if lk T N q = 42 then 3 else 4) cd4 (by rw [List.length_append]; show (L ++ c0).length + cp.length < 1600; omega) (by rcases hs with e | e <;> rw [e] <;> rfl)) ?_
            rintro x5 F5 ⟨rfl, cd5, k5⟩
            refine V_pop (d_ru_readProduct_68 (d+1)) rfl ?_
            refine V_iinc_2 (d_ru_readProduct_69 (d+1)) rfl ?_
            refine V_goto 12 (d_ru_readProduct_72 (d+1)) (by decide) ?_
            refine ih F5 q3 d3 (i + 1) (c0 ++ (cp ++ [if lk T N q = 42 then 3 else 4])) r5 _ (by omega) h5 ?_ ?_ ?_ ?_ ?_ ?_ ?_ (by omega) (by omega)
            · rw [hrr, h6, pre_pre]
            · exact t4.fr (fun j k hj => k5 j k (by omega) (by omega))
            · rw [← List.append_assoc, ← List.append_assoc]; exact cd5
            · rw [← List.append_assoc, ← List.append_assoc, List.length_append, List.length_append]
              simp only [List.length_cons, List.length_nil]; push_cast; omega
            · exact ((hf1.tr k3.r).tr k4).tr (fun j k a b c => k5 j k b c)
            · rw [k5 _ _ (by decide) (by decide), a5, a3, g3]
            · rw [k5 _ _ (by decide) (by decide), a6, a4, g4]
        refine V_iload_2 (d_ru_readProduct_12 (d+1)) ?_
        refine V_sipush 1600 (d_ru_readProduct_13 (d+1)) (by decide) ?_
        refine V_icmp_ge 75 (d_ru_readProduct_16 (d+1)) (by decide) (by omega) (by omega) (fun c16 => by omega) (fun c16 => ?_)
        refine V_aload_0 (d_ru_readProduct_19 (d+1)) ?_
        refine V_getR (d_ru_readProduct_20 (d+1)) fl_ru_29 is_ru r_ru_tape ?_
        refine V_cvI0 (d_ru_readProduct_23 (d+1)) ml_ru_77 mv_tp_skipBlanks (Nat.le_trans (by decide) hd10) (Nat.le_of_ble_eq_true rfl) is_tp (ok_skipBlanks hT2) ?_
        rintro _ f2 ⟨rfl, e2⟩
        rw [e2]; clear e2 f2
        refine V_istore_3 (d_ru_readProduct_26 (d+1)) rfl ?_
        refine V_iload_3 (d_ru_readProduct_27 (d+1)) ?_
        refine V_bipush 42 (d_ru_readProduct_28 (d+1)) (by decide) ?_
        refine V_icmp_eq 41 (d_ru_readProduct_30 (d+1)) (by decide) (by omega) (by omega) (fun c30 => ?_) (fun c30 => ?_)
        · skip
          exact K41
        · skip
          refine V_iload_3 (d_ru_readProduct_33 (d+1)) ?_
          refine V_bipush 47 (d_ru_readProduct_34 (d+1)) (by decide) ?_
          refine V_icmp_eq 41 (d_ru_readProduct_36 (d+1)) (by decide) (by omega) (by omega) (fun c36 => ?_) (fun c36 => ?_)
          · skip
            exact K41
          · skip
            refine V_iconst 1 (d_ru_readProduct_39 (d+1)) ?_
            refine V_ireturn (d_ru_readProduct_40 (d+1)) (hR _ _ (by decide) ?_)
            omega
      · rw [if_neg hs] at hr3
        cases hr3
        refine V_iload_2 (d_ru_readProduct_12 (d+1)) ?_
        refine V_sipush 1600 (d_ru_readProduct_13 (d+1)) (by decide) ?_
        refine V_icmp_ge 75 (d_ru_readProduct_16 (d+1)) (by decide) (by omega) (by omega) (fun c16 => by omega) (fun c16 => ?_)
        refine V_aload_0 (d_ru_readProduct_19 (d+1)) ?_
        refine V_getR (d_ru_readProduct_20 (d+1)) fl_ru_29 is_ru r_ru_tape ?_
        refine V_cvI0 (d_ru_readProduct_23 (d+1)) ml_ru_77 mv_tp_skipBlanks (Nat.le_trans (by decide) hd10) (Nat.le_of_ble_eq_true rfl) is_tp (ok_skipBlanks hT2) ?_
        rintro _ f2 ⟨rfl, e2⟩
        rw [e2]; clear e2 f2
        refine V_istore_3 (d_ru_readProduct_26 (d+1)) rfl ?_
        refine V_iload_3 (d_ru_readProduct_27 (d+1)) ?_
        refine V_bipush 42 (d_ru_readProduct_28 (d+1)) (by decide) ?_
        refine V_icmp_eq 41 (d_ru_readProduct_30 (d+1)) (by decide) (by omega) (by omega) (fun c30 => ?_) (fun c30 => ?_)
        · skip
          exact absurd (Or.inl c30) hs
        · skip
          refine V_iload_3 (d_ru_readProduct_33 (d+1)) ?_
          refine V_bipush 47 (d_ru_readProduct_34 (d+1)) (by decide) ?_
          refine V_icmp_eq 41 (d_ru_readProduct_36 (d+1)) (by decide) (by omega) (by omega) (fun c36 => ?_) (fun c36 => ?_)
          · skip
            exact absurd (Or.inr c36) hs
          · skip
            refine V_iconst 1 (d_ru_readProduct_39 (d+1)) ?_
            refine V_ireturn (d_ru_readProduct_40 (d+1)) (hR _ _ (by decide) ?_)
            rw [hrr]
            exact ⟨rfl, hpl, by show cdS _ (L ++ (c0 ++ [])); rw [List.append_nil]; exact hpc, g3, g4, hf1⟩
  have hr3 : ob (rd T N n 0 o p e) (fun c q r => ob (rd T N n 2 o q r) (fun c2 q r => some (.inr (c ++ c2, q, r)))) = some r := hr
  rcases ob_cases hr3 with ⟨e0, h1, h2⟩ | ⟨cp, q3, d3, h1, h2⟩
  · subst h2
    refine V_aload_0 (d_ru_readProduct_0 (d+1)) ?_
    refine V_iload_1 (d_ru_readProduct_1 (d+1)) ?_
    refine V_cvI1 (d_ru_readProduct_2 (d+1)) (ml_ru_89 d) (mv_ru_readPart d) (Nat.le_refl _) (Nat.le_of_ble_eq_true rfl) is_ru (hP n (by omega) d f L o p e _ ho (by omega) hT hc hL h1) ?_
    rintro x4 F4 ⟨rfl, b1, b2, b3⟩
    refine V_if_ne 10 (d_ru_readProduct_5 (d+1)) (by decide) (by omega) (fun c5 => by omega) (fun c5 => ?_)
    refine V_iconst 0 (d_ru_readProduct_8 (d+1)) ?_
    refine V_ireturn (d_ru_readProduct_9 (d+1)) (hR _ _ (by decide) ?_)
    exact ⟨rfl, b1, b2, b3⟩
  · have hl1 := rd_len n 0 o _ _ _ _ _ hp.2.1 h1
    have hl2 := hl1.2.2 (by decide)
    obtain ⟨r5, h5, h6⟩ := ob_pre h2
    refine V_aload_0 (d_ru_readProduct_0 (d+1)) ?_
    refine V_iload_1 (d_ru_readProduct_1 (d+1)) ?_
    refine V_cvI1 (d_ru_readProduct_2 (d+1)) (ml_ru_89 d) (mv_ru_readPart d) (Nat.le_refl _) (Nat.le_of_ble_eq_true rfl) is_ru (hP n (by omega) d f L o p e _ ho (by omega) hT hc hL h1) ?_
    rintro x4 F4 ⟨rfl, t4, cd4, a5, a6, k4⟩
    refine V_if_ne 10 (d_ru_readProduct_5 (d+1)) (by decide) (by omega) (fun c5 => ?_) (fun c5 => by omega)
    refine V_iconst 0 (d_ru_readProduct_10 (d+1)) ?_
    refine V_istore_2 (d_ru_readProduct_11 (d+1)) rfl ?_
    exact loop n F4 q3 d3 0 cp r5 _ (by omega) h5 h6 t4 cd4 (by rw [List.length_append]; push_cast; omega) k4 a5 a6 (by omega) (by omega)
theorem ok_readSum {n : Nat} (hP : ∀ k, k ≤ n → okR D g h T N m_ru_readProduct 12 1 k) : okR D g h T N m_ru_readSum 13 3 (n + 1) := by
  intro d0 f L o p e r ho hd hT hc hL hr
  obtain ⟨d, rfl⟩ : ∃ d, d0 = d + 1 := ⟨d0 - 1, by omega⟩
  have hd10 : 10 ≤ d + 1 := by omega
  have hp := hT.pr
  refine OkB_of (L0 := [vr D 4, vi o, vu, vu]) mi0_ru_readSum rfl rfl (Nat.le_of_ble_eq_true rfl) (fun C hR => ?_)
  have loop : ∀ (k : Nat) (F : q_F) (q e1 i : Int) (c0 : List Int) (r2 : q_R (List Int × Int × Int)) (u : Value), k ≤ n → rd T N k 4 o q e1 = some r2 → r = rpre c0 r2 → tpS F T N q e1 → cdS F (L ++ c0) → ((L ++ c0).length : Int) ≤ q → rK f F → F 1 3 = f 1 3 → F 1 4 = f 1 4 → 0 ≤ i → i + 1 ≤ q → V D C (m_ru_readSum (d + 1)) 12 [vr D 4, vi o, vi i, u] [] (Zg g h) F := by
    intro k
    induction k with
    | zero => intro F q e1 i c0 r2 u hk hr2; cases hr2
    | succ k ih =>
      intro F q e1 i c0 r2 u hk hr2 hrr hT2 hc2 hL2 hf f3 f4 hi hiq
      have hp2 := hT2.pr
      have hlk := lk_rg hT2.1 hp2.1
      have hr3 : (if lk T N q = 43 ∨ lk T N q = 45 then ob (rd T N k 1 o (sk T N (q + 1)) e1) (fun c q3 r => ob (rd T N k 4 o q3 r) (fun c2 q4 r => some (.inr (c ++ ((if lk T N q = 43 then 1 else 2) :: c2), q4, r)))) else some (.inr ([], q, e1))) = some r2 := hr2
      have hpl : tpS (q_up F 1 2 q) T N q e1 := hT2.pl
      have hpc : cdS (q_up F 1 2 q) (L ++ c0) := hc2.fr (cK.refl F).up
      have g3 : (q_up F 1 2 q) 1 3 = f 1 3 := by rw [q_up_ne (Or.inr (by decide))]; exact f3
      have g4 : (q_up F 1 2 q) 1 4 = f 1 4 := by rw [q_up_ne (Or.inr (by decide))]; exact f4
      have hf1 : rK f (q_up F 1 2 q) := hf.tr (cK.refl F).up.r
      by_cases hs : lk T N q = 43 ∨ lk T N q = 45
      · rw [if_pos hs] at hr3
        have hqN : q < N := by rcases hs with hs | hs <;> exact (lk_of (by decide) hs).1
        have hsg : l_sign T N (lk T N q) q e1 = .inr (sk T N (q + 1), e1) := by unfold l_sign; rw [if_pos rfl]
        have hsk := sk_ge (T := T) hqN
        have K41 : V D C (m_ru_readSum (d + 1)) 41 [vr D 4, vi o, vi i, vi (lk T N q)] [] (Zg g h) (q_up F 1 2 q) := by
          rcases ob_cases hr3 with ⟨e0, h1, h2⟩ | ⟨cp, q3, d3, h1, h2⟩
          · subst h2
            refine V_aload_0 (d_ru_readSum_41 (d+1)) ?_
            refine V_getR (d_ru_readSum_42 (d+1)) fl_ru_29 is_ru r_ru_tape ?_
            refine V_iload_3 (d_ru_readSum_45 (d+1)) ?_
            refine V_cvI1 (d_ru_readSum_46 (d+1)) ml_ru_80 mv_tp_takeSign (Nat.le_trans (by decide) hd10) (Nat.le_of_ble_eq_true rfl) is_tp (ok_takeSign hpl (by omega)) ?_
            rintro x F3 hx
            obtain ⟨rfl, t3, a3, a4, k3⟩ := cO_inr hx hsg
            refine V_if_eq 60 (d_ru_readSum_49 (d+1)) (by decide) (by omega) (fun c49 => by omega) (fun c49 => ?_)
            refine V_aload_0 (d_ru_readSum_52 (d+1)) ?_
            refine V_iload_1 (d_ru_readSum_53 (d+1)) ?_
            refine V_cvI1 (d_ru_readSum_54 (d+1)) (ml_ru_86 d) (mv_ru_readProduct d) (Nat.le_refl _) (Nat.le_of_ble_eq_true rfl) is_ru (hP k (by omega) d F3 (L ++ c0) o _ e1 _ ho (by omega) t3 (hpc.fr k3) (by omega) h1) ?_
            rintro x4 F4 ⟨rfl, b1, b2, b3⟩
            refine V_if_ne 62 (d_ru_readSum_57 (d+1)) (by decide) (by omega) (fun c57 => by omega) (fun c57 => ?_)
            refine V_iconst 0 (d_ru_readSum_60 (d+1)) ?_
            refine V_ireturn (d_ru_readSum_61 (d+1)) (hR _ _ (by decide) ?_)
            rw [hrr]
            exact ⟨rfl, b1, b2, (hf1.tr k3.r).tr b3⟩
          · have hl1 := rd_len k 1 o _ _ _ _ _ hsk.2 h1
            obtain ⟨r5, h5, h6⟩ := ob_pre1 h2
            refine V_aload_0 (d_ru_readSum_41 (d+1)) ?_
            refine V_getR (d_ru_readSum_42 (d+1)) fl_ru_29 is_ru r_ru_tape ?_
            refine V_iload_3 (d_ru_readSum_45 (d+1)) ?_
            refine V_cvI1 (d_ru_readSum_46 (d+1)) ml_ru_80 mv_tp_takeSign (Nat.le_trans (by decide) hd10) (Nat.le_of_ble_eq_true rfl) is_tp (ok_takeSign hpl (by omega)) ?_
            rintro x F3 hx
            obtain ⟨rfl, t3, a3, a4, k3⟩ := cO_inr hx hsg
            refine V_if_eq 60 (d_ru_readSum_49 (d+1)) (by decide) (by omega) (fun c49 => by omega) (fun c49 => ?_)
            refine V_aload_0 (d_ru_readSum_52 (d+1)) ?_
            refine V_iload_1 (d_ru_readSum_53 (d+1)) ?_
            refine V_cvI1 (d_ru_readSum_54 (d+1)) (ml_ru_86 d) (mv_ru_readProduct d) (Nat.le_refl _) (Nat.le_of_ble_eq_true rfl) is_ru (hP k (by omega) d F3 (L ++ c0) o _ e1 _ ho (by omega) t3 (hpc.fr k3) (by omega) h1) ?_
            rintro x4 F4 ⟨rfl, t4, cd4, a5, a6, k4⟩
            refine V_if_ne 62 (d_ru_readSum_57 (d+1)) (by decide) (by omega) (fun c57 => ?_) (fun c57 => by omega)
            refine V_aload_0 (d_ru_readSum_62 (d+1)) ?_
            refine V_iload_3 (d_ru_readSum_63 (d+1)) ?_
            refine V_ineg (d_ru_readSum_64 (d+1)) ?_
            refine V_cvI1 (d_ru_readSum_65 (d+1)) ml_ru_60 mv_ru_emit (Nat.le_trans (by decide) hd10) (Nat.le_of_ble_eq_true rfl) is_ru (ok_emit (c := if lk T N q = 43 then 1 else 2) cd4 (by rw [List.length_append]; show (L ++ c0).length + cp.length < 1600; omega) (by rcases hs with e | e <;> rw [e] <;> rfl)) ?_
            rintro x5 F5 ⟨rfl, cd5, k5⟩
            refine V_pop (d_ru_readSum_68 (d+1)) rfl ?_
            refine V_iinc_2 (d_ru_readSum_69 (d+1)) rfl ?_
            refine V_goto 12 (d_ru_readSum_72 (d+1)) (by decide) ?_
            refine ih F5 q3 d3 (i + 1) (c0 ++ (cp ++ [if lk T N q = 43 then 1 else 2])) r5 _ (by omega) h5 ?_ ?_ ?_ ?_ ?_ ?_ ?_ (by omega) (by omega)
            · rw [hrr, h6, pre_pre]
            · exact t4.fr (fun j k hj => k5 j k (by omega) (by omega))
            · rw [← List.append_assoc, ← List.append_assoc]; exact cd5
            · rw [← List.append_assoc, ← List.append_assoc, List.length_append, List.length_append]
              simp only [List.length_cons, List.length_nil]; push_cast; omega
            · exact ((hf1.tr k3.r).tr k4).tr (fun j k a b c => k5 j k b c)
            · rw [k5 _ _ (by decide) (by decide), a5, a3, g3]
            · rw [k5 _ _ (by decide) (by decide), a6, a4, g4]
        refine V_iload_2 (d_ru_readSum_12 (d+1)) ?_
        refine V_sipush 1600 (d_ru_readSum_13 (d+1)) (by decide) ?_
        refine V_icmp_ge 75 (d_ru_readSum_16 (d+1)) (by decide) (by omega) (by omega) (fun c16 => by omega) (fun c16 => ?_)
        refine V_aload_0 (d_ru_readSum_19 (d+1)) ?_
        refine V_getR (d_ru_readSum_20 (d+1)) fl_ru_29 is_ru r_ru_tape ?_
        refine V_cvI0 (d_ru_readSum_23 (d+1)) ml_ru_77 mv_tp_skipBlanks (Nat.le_trans (by decide) hd10) (Nat.le_of_ble_eq_true rfl) is_tp (ok_skipBlanks hT2) ?_
        rintro _ f2 ⟨rfl, e2⟩
        rw [e2]; clear e2 f2
        refine V_istore_3 (d_ru_readSum_26 (d+1)) rfl ?_
        refine V_iload_3 (d_ru_readSum_27 (d+1)) ?_
        refine V_bipush 43 (d_ru_readSum_28 (d+1)) (by decide) ?_
        refine V_icmp_eq 41 (d_ru_readSum_30 (d+1)) (by decide) (by omega) (by omega) (fun c30 => ?_) (fun c30 => ?_)
        · skip
          exact K41
        · skip
          refine V_iload_3 (d_ru_readSum_33 (d+1)) ?_
          refine V_bipush 45 (d_ru_readSum_34 (d+1)) (by decide) ?_
          refine V_icmp_eq 41 (d_ru_readSum_36 (d+1)) (by decide) (by omega) (by omega) (fun c36 => ?_) (fun c36 => ?_)
          · skip
            exact K41
          · skip
            refine V_iconst 1 (d_ru_readSum_39 (d+1)) ?_
            refine V_ireturn (d_ru_readSum_40 (d+1)) (hR _ _ (by decide) ?_)
            omega
      · rw [if_neg hs] at hr3
        cases hr3
        refine V_iload_2 (d_ru_readSum_12 (d+1)) ?_
        refine V_sipush 1600 (d_ru_readSum_13 (d+1)) (by decide) ?_
        refine V_icmp_ge 75 (d_ru_readSum_16 (d+1)) (by decide) (by omega) (by omega) (fun c16 => by omega) (fun c16 => ?_)
        refine V_aload_0 (d_ru_readSum_19 (d+1)) ?_
        refine V_getR (d_ru_readSum_20 (d+1)) fl_ru_29 is_ru r_ru_tape ?_
        refine V_cvI0 (d_ru_readSum_23 (d+1)) ml_ru_77 mv_tp_skipBlanks (Nat.le_trans (by decide) hd10) (Nat.le_of_ble_eq_true rfl) is_tp (ok_skipBlanks hT2) ?_
        rintro _ f2 ⟨rfl, e2⟩
        rw [e2]; clear e2 f2
        refine V_istore_3 (d_ru_readSum_26 (d+1)) rfl ?_
        refine V_iload_3 (d_ru_readSum_27 (d+1)) ?_
        refine V_bipush 43 (d_ru_readSum_28 (d+1)) (by decide) ?_
        refine V_icmp_eq 41 (d_ru_readSum_30 (d+1)) (by decide) (by omega) (by omega) (fun c30 => ?_) (fun c30 => ?_)
        · skip
          exact absurd (Or.inl c30) hs
        · skip
          refine V_iload_3 (d_ru_readSum_33 (d+1)) ?_
          refine V_bipush 45 (d_ru_readSum_34 (d+1)) (by decide) ?_
          refine V_icmp_eq 41 (d_ru_readSum_36 (d+1)) (by decide) (by omega) (by omega) (fun c36 => ?_) (fun c36 => ?_)
          · skip
            exact absurd (Or.inr c36) hs
          · skip
            refine V_iconst 1 (d_ru_readSum_39 (d+1)) ?_
            refine V_ireturn (d_ru_readSum_40 (d+1)) (hR _ _ (by decide) ?_)
            rw [hrr]
            exact ⟨rfl, hpl, by show cdS _ (L ++ (c0 ++ [])); rw [List.append_nil]; exact hpc, g3, g4, hf1⟩
  have hr3 : ob (rd T N n 1 o p e) (fun c q r => ob (rd T N n 4 o q r) (fun c2 q r => some (.inr (c ++ c2, q, r)))) = some r := hr
  rcases ob_cases hr3 with ⟨e0, h1, h2⟩ | ⟨cp, q3, d3, h1, h2⟩
  · subst h2
    refine V_aload_0 (d_ru_readSum_0 (d+1)) ?_
    refine V_iload_1 (d_ru_readSum_1 (d+1)) ?_
    refine V_cvI1 (d_ru_readSum_2 (d+1)) (ml_ru_86 d) (mv_ru_readProduct d) (Nat.le_refl _) (Nat.le_of_ble_eq_true rfl) is_ru (hP n (by omega) d f L o p e _ ho (by omega) hT hc hL h1) ?_
    rintro x4 F4 ⟨rfl, b1, b2, b3⟩
    refine V_if_ne 10 (d_ru_readSum_5 (d+1)) (by decide) (by omega) (fun c5 => by omega) (fun c5 => ?_)
    refine V_iconst 0 (d_ru_readSum_8 (d+1)) ?_
    refine V_ireturn (d_ru_readSum_9 (d+1)) (hR _ _ (by decide) ?_)
    exact ⟨rfl, b1, b2, b3⟩
  · have hl1 := rd_len n 1 o _ _ _ _ _ hp.2.1 h1
    have hl2 := hl1.2.2 (by decide)
    obtain ⟨r5, h5, h6⟩ := ob_pre h2
    refine V_aload_0 (d_ru_readSum_0 (d+1)) ?_
    refine V_iload_1 (d_ru_readSum_1 (d+1)) ?_
    refine V_cvI1 (d_ru_readSum_2 (d+1)) (ml_ru_86 d) (mv_ru_readProduct d) (Nat.le_refl _) (Nat.le_of_ble_eq_true rfl) is_ru (hP n (by omega) d f L o p e _ ho (by omega) hT hc hL h1) ?_
    rintro x4 F4 ⟨rfl, t4, cd4, a5, a6, k4⟩
    refine V_if_ne 10 (d_ru_readSum_5 (d+1)) (by decide) (by omega) (fun c5 => ?_) (fun c5 => by omega)
    refine V_iconst 0 (d_ru_readSum_10 (d+1)) ?_
    refine V_istore_2 (d_ru_readSum_11 (d+1)) rfl ?_
    exact loop n F4 q3 d3 0 cp r5 _ (by omega) h5 h6 t4 cd4 (by rw [List.length_append]; push_cast; omega) k4 a5 a6 (by omega) (by omega)
theorem ok_readBoth {n : Nat} (hP : ∀ k, k ≤ n → okR D g h T N m_ru_readFact 14 5 k) : okR D g h T N m_ru_readBoth 15 6 (n + 1) := by
  intro d0 f L o p e r ho hd hT hc hL hr
  obtain ⟨d, rfl⟩ : ∃ d, d0 = d + 1 := ⟨d0 - 1, by omega⟩
  have hd10 : 10 ≤ d + 1 := by omega
  have hp := hT.pr
  refine OkB_of (L0 := [vr D 4, vi o, vu]) mi0_ru_readBoth rfl rfl (Nat.le_of_ble_eq_true rfl) (fun C hR => ?_)
  have loop : ∀ (k : Nat) (F : q_F) (q e1 i : Int) (c0 : List Int) (r2 : q_R (List Int × Int × Int)), k ≤ n → rd T N k 7 o q e1 = some r2 → r = rpre c0 r2 → tpS F T N q e1 → cdS F (L ++ c0) → ((L ++ c0).length : Int) ≤ q → rK f F → F 1 3 = f 1 3 → F 1 4 = f 1 4 → 0 ≤ i → i + 1 ≤ q → V D C (m_ru_readBoth (d + 1)) 12 [vr D 4, vi o, vi i] [] (Zg g h) F := by
    intro k
    induction k with
    | zero => intro F q e1 i c0 r2 hk hr2; cases hr2
    | succ k ih =>
      intro F q e1 i c0 r2 hk hr2 hrr hT2 hc2 hL2 hf f3 f4 hi hiq
      have hp2 := hT2.pr
      have hr3 : (if wd T N q e1 = 17 then ob (rd T N k 5 o (sk T N (le T N q)) (le T N q)) (fun c q3 r => ob (rd T N k 7 o q3 r) (fun c2 q4 r => some (.inr (c ++ (14 :: c2), q4, r)))) else some (.inr ([], q, e1))) = some r2 := hr2
      by_cases hs : wd T N q e1 = 17
      · rw [if_pos hs] at hr3
        have hsk := wd_ge (T := T) hp2.2.1 (e := e1) (by omega)
        rcases ob_cases hr3 with ⟨e0, h1, h2⟩ | ⟨cp, q3, d3, h1, h2⟩
        · subst h2
          refine V_iload_2 (d_ru_readBoth_12 (d+1)) ?_
          refine V_sipush 1600 (d_ru_readBoth_13 (d+1)) (by decide) ?_
          refine V_icmp_ge 55 (d_ru_readBoth_16 (d+1)) (by decide) (by omega) (by omega) (fun c16 => by omega) (fun c16 => ?_)
          refine V_aload_0 (d_ru_readBoth_19 (d+1)) ?_
          refine V_getR (d_ru_readBoth_20 (d+1)) fl_ru_29 is_ru r_ru_tape ?_
          refine V_bipush 17 (d_ru_readBoth_23 (d+1)) (by decide) ?_
          refine V_cvI1 (d_ru_readBoth_25 (d+1)) ml_ru_57 mv_tp_passOverWord (Nat.le_trans (by decide) hd10) (Nat.le_of_ble_eq_true rfl) is_tp (ok_passOverWord hT2 (by decide)) ?_
          rintro x F3 ⟨hx, a3, a4, k3⟩
          obtain ⟨rfl, -, t3⟩ := hx.resolve_right (fun h => h.2.1 hs)
          refine V_if_eq 55 (d_ru_readBoth_28 (d+1)) (by decide) (by omega) (fun c28 => by omega) (fun c28 => ?_)
          refine V_aload_0 (d_ru_readBoth_31 (d+1)) ?_
          refine V_iload_1 (d_ru_readBoth_32 (d+1)) ?_
          refine V_cvI1 (d_ru_readBoth_33 (d+1)) (ml_ru_63 d) (mv_ru_readFact d) (Nat.le_refl _) (Nat.le_of_ble_eq_true rfl) is_ru (hP k (by omega) d F3 (L ++ c0) o _ _ _ ho (by omega) t3 (hc2.fr k3) (by omega) h1) ?_
          rintro x4 F4 ⟨rfl, b1, b2, b3⟩
          refine V_if_ne 41 (d_ru_readBoth_36 (d+1)) (by decide) (by omega) (fun c36 => by omega) (fun c36 => ?_)
          refine V_iconst 0 (d_ru_readBoth_39 (d+1)) ?_
          refine V_ireturn (d_ru_readBoth_40 (d+1)) (hR _ _ (by decide) ?_)
          rw [hrr]
          exact ⟨rfl, b1, b2, (hf.tr k3.r).tr b3⟩
        · have hl1 := rd_len k 5 o _ _ _ _ _ hsk.2.1 h1
          obtain ⟨r5, h5, h6⟩ := ob_pre1 h2
          refine V_iload_2 (d_ru_readBoth_12 (d+1)) ?_
          refine V_sipush 1600 (d_ru_readBoth_13 (d+1)) (by decide) ?_
          refine V_icmp_ge 55 (d_ru_readBoth_16 (d+1)) (by decide) (by omega) (by omega) (fun c16 => by omega) (fun c16 => ?_)
          refine V_aload_0 (d_ru_readBoth_19 (d+1)) ?_
          refine V_getR (d_ru_readBoth_20 (d+1)) fl_ru_29 is_ru r_ru_tape ?_
          refine V_bipush 17 (d_ru_readBoth_23 (d+1)) (by decide) ?_
          refine V_cvI1 (d_ru_readBoth_25 (d+1)) ml_ru_57 mv_tp_passOverWord (Nat.le_trans (by decide) hd10) (Nat.le_of_ble_eq_true rfl) is_tp (ok_passOverWord hT2 (by decide)) ?_
          rintro x F3 ⟨hx, a3, a4, k3⟩
          obtain ⟨rfl, -, t3⟩ := hx.resolve_right (fun h => h.2.1 hs)
          refine V_if_eq 55 (d_ru_readBoth_28 (d+1)) (by decide) (by omega) (fun c28 => by omega) (fun c28 => ?_)
          refine V_aload_0 (d_ru_readBoth_31 (d+1)) ?_
          refine V_iload_1 (d_ru_readBoth_32 (d+1)) ?_
          refine V_cvI1 (d_ru_readBoth_33 (d+1)) (ml_ru_63 d) (mv_ru_readFact d) (Nat.le_refl _) (Nat.le_of_ble_eq_true rfl) is_ru (hP k (by omega) d F3 (L ++ c0) o _ _ _ ho (by omega) t3 (hc2.fr k3) (by omega) h1) ?_
          rintro x4 F4 ⟨rfl, t4, cd4, a5, a6, k4⟩
          refine V_if_ne 41 (d_ru_readBoth_36 (d+1)) (by decide) (by omega) (fun c36 => ?_) (fun c36 => by omega)
          refine V_aload_0 (d_ru_readBoth_41 (d+1)) ?_
          refine V_sipush (-217) (d_ru_readBoth_42 (d+1)) (by decide) ?_
          refine V_cvI1 (d_ru_readBoth_45 (d+1)) ml_ru_60 mv_ru_emit (Nat.le_trans (by decide) hd10) (Nat.le_of_ble_eq_true rfl) is_ru (ok_emit (c := 14) cd4 (by rw [List.length_append]; show (L ++ c0).length + cp.length < 1600; omega) rfl) ?_
          rintro x5 F5 ⟨rfl, cd5, k5⟩
          refine V_pop (d_ru_readBoth_48 (d+1)) rfl ?_
          refine V_iinc_2 (d_ru_readBoth_49 (d+1)) rfl ?_
          refine V_goto 12 (d_ru_readBoth_52 (d+1)) (by decide) ?_
          refine ih F5 q3 d3 (i + 1) (c0 ++ (cp ++ [14])) r5 (by omega) h5 ?_ ?_ ?_ ?_ ?_ ?_ ?_ (by omega) (by omega)
          · rw [hrr, h6, pre_pre]
          · exact t4.fr (fun j k hj => k5 j k (by omega) (by omega))
          · rw [← List.append_assoc, ← List.append_assoc]; exact cd5
          · rw [← List.append_assoc, ← List.append_assoc, List.length_append, List.length_append]
            simp only [List.length_cons, List.length_nil]; push_cast; omega
          · exact ((hf.tr k3.r).tr k4).tr (fun j k a b c => k5 j k b c)
          · rw [k5 _ _ (by decide) (by decide), a5, a3, f3]
          · rw [k5 _ _ (by decide) (by decide), a6, a4, f4]
      · rw [if_neg hs] at hr3
        cases hr3
        refine V_iload_2 (d_ru_readBoth_12 (d+1)) ?_
        refine V_sipush 1600 (d_ru_readBoth_13 (d+1)) (by decide) ?_
        refine V_icmp_ge 55 (d_ru_readBoth_16 (d+1)) (by decide) (by omega) (by omega) (fun c16 => by omega) (fun c16 => ?_)
        refine V_aload_0 (d_ru_readBoth_19 (d+1)) ?_
        refine V_getR (d_ru_readBoth_20 (d+1)) fl_ru_29 is_ru r_ru_tape ?_
        refine V_bipush 17 (d_ru_readBoth_23 (d+1)) (by decide) ?_
        refine V_cvI1 (d_ru_readBoth_25 (d+1)) ml_ru_57 mv_tp_passOverWord (Nat.le_trans (by decide) hd10) (Nat.le_of_ble_eq_true rfl) is_tp (ok_passOverWord hT2 (by decide)) ?_
        rintro x F3 ⟨hx, a3, a4, k3⟩
        obtain ⟨rfl, -, t3⟩ := hx.resolve_left (fun h => hs h.2.1)
        refine V_if_eq 55 (d_ru_readBoth_28 (d+1)) (by decide) (by omega) (fun c28 => ?_) (fun c28 => by omega)
        refine V_iconst 1 (d_ru_readBoth_55 (d+1)) ?_
        refine V_ireturn (d_ru_readBoth_56 (d+1)) (hR _ _ (by decide) ?_)
        rw [hrr]
        exact ⟨rfl, t3, by show cdS _ (L ++ (c0 ++ [])); rw [List.append_nil]; exact hc2.fr k3, by rw [a3, f3], by rw [a4, f4], hf.tr k3.r⟩
  have hr3 : ob (rd T N n 5 o p e) (fun c q r => ob (rd T N n 7 o q r) (fun c2 q r => some (.inr (c ++ c2, q, r)))) = some r := hr
  rcases ob_cases hr3 with ⟨e0, h1, h2⟩ | ⟨cp, q3, d3, h1, h2⟩
  · subst h2
    refine V_aload_0 (d_ru_readBoth_0 (d+1)) ?_
    refine V_iload_1 (d_ru_readBoth_1 (d+1)) ?_
    refine V_cvI1 (d_ru_readBoth_2 (d+1)) (ml_ru_63 d) (mv_ru_readFact d) (Nat.le_refl _) (Nat.le_of_ble_eq_true rfl) is_ru (hP n (by omega) d f L o p e _ ho (by omega) hT hc hL h1) ?_
    rintro x4 F4 ⟨rfl, b1, b2, b3⟩
    refine V_if_ne 10 (d_ru_readBoth_5 (d+1)) (by decide) (by omega) (fun c5 => by omega) (fun c5 => ?_)
    refine V_iconst 0 (d_ru_readBoth_8 (d+1)) ?_
    refine V_ireturn (d_ru_readBoth_9 (d+1)) (hR _ _ (by decide) ?_)
    exact ⟨rfl, b1, b2, b3⟩
  · have hl1 := rd_len n 5 o _ _ _ _ _ hp.2.1 h1
    have hl2 := hl1.2.2 (by decide)
    obtain ⟨r5, h5, h6⟩ := ob_pre h2
    refine V_aload_0 (d_ru_readBoth_0 (d+1)) ?_
    refine V_iload_1 (d_ru_readBoth_1 (d+1)) ?_
    refine V_cvI1 (d_ru_readBoth_2 (d+1)) (ml_ru_63 d) (mv_ru_readFact d) (Nat.le_refl _) (Nat.le_of_ble_eq_true rfl) is_ru (hP n (by omega) d f L o p e _ ho (by omega) hT hc hL h1) ?_
    rintro x4 F4 ⟨rfl, t4, cd4, a5, a6, k4⟩
    refine V_if_ne 10 (d_ru_readBoth_5 (d+1)) (by decide) (by omega) (fun c5 => ?_) (fun c5 => by omega)
    refine V_iconst 0 (d_ru_readBoth_10 (d+1)) ?_
    refine V_istore_2 (d_ru_readBoth_11 (d+1)) rfl ?_
    exact loop n F4 q3 d3 0 cp r5 (by omega) h5 h6 t4 cd4 (by rw [List.length_append]; push_cast; omega) k4 a5 a6 (by omega) (by omega)
theorem ok_readTest {n : Nat} (hP : ∀ k, k ≤ n → okR D g h T N m_ru_readBoth 15 6 k) : okR D g h T N m_ru_readTest 16 8 (n + 1) := by
  intro d0 f L o p e r ho hd hT hc hL hr
  obtain ⟨d, rfl⟩ : ∃ d, d0 = d + 1 := ⟨d0 - 1, by omega⟩
  have hd10 : 10 ≤ d + 1 := by omega
  have hp := hT.pr
  refine OkB_of (L0 := [vr D 4, vi o, vu]) mi0_ru_readTest rfl rfl (Nat.le_of_ble_eq_true rfl) (fun C hR => ?_)
  have loop : ∀ (k : Nat) (F : q_F) (q e1 i : Int) (c0 : List Int) (r2 : q_R (List Int × Int × Int)), k ≤ n → rd T N k 9 o q e1 = some r2 → r = rpre c0 r2 → tpS F T N q e1 → cdS F (L ++ c0) → ((L ++ c0).length : Int) ≤ q → rK f F → F 1 3 = f 1 3 → F 1 4 = f 1 4 → 0 ≤ i → i + 1 ≤ q → V D C (m_ru_readTest (d + 1)) 12 [vr D 4, vi o, vi i] [] (Zg g h) F := by
    intro k
    induction k with
    | zero => intro F q e1 i c0 r2 hk hr2; cases hr2
    | succ k ih =>
      intro F q e1 i c0 r2 hk hr2 hrr hT2 hc2 hL2 hf f3 f4 hi hiq
      have hp2 := hT2.pr
      have hr3 : (if wd T N q e1 = 16 then ob (rd T N k 6 o (sk T N (le T N q)) (le T N q)) (fun c q3 r => ob (rd T N k 9 o q3 r) (fun c2 q4 r => some (.inr (c ++ (15 :: c2), q4, r)))) else some (.inr ([], q, e1))) = some r2 := hr2
      by_cases hs : wd T N q e1 = 16
      · rw [if_pos hs] at hr3
        have hsk := wd_ge (T := T) hp2.2.1 (e := e1) (by omega)
        rcases ob_cases hr3 with ⟨e0, h1, h2⟩ | ⟨cp, q3, d3, h1, h2⟩
        · subst h2
          refine V_iload_2 (d_ru_readTest_12 (d+1)) ?_
          refine V_sipush 1600 (d_ru_readTest_13 (d+1)) (by decide) ?_
          refine V_icmp_ge 55 (d_ru_readTest_16 (d+1)) (by decide) (by omega) (by omega) (fun c16 => by omega) (fun c16 => ?_)
          refine V_aload_0 (d_ru_readTest_19 (d+1)) ?_
          refine V_getR (d_ru_readTest_20 (d+1)) fl_ru_29 is_ru r_ru_tape ?_
          refine V_bipush 16 (d_ru_readTest_23 (d+1)) (by decide) ?_
          refine V_cvI1 (d_ru_readTest_25 (d+1)) ml_ru_57 mv_tp_passOverWord (Nat.le_trans (by decide) hd10) (Nat.le_of_ble_eq_true rfl) is_tp (ok_passOverWord hT2 (by decide)) ?_
          rintro x F3 ⟨hx, a3, a4, k3⟩
          obtain ⟨rfl, -, t3⟩ := hx.resolve_right (fun h => h.2.1 hs)
          refine V_if_eq 55 (d_ru_readTest_28 (d+1)) (by decide) (by omega) (fun c28 => by omega) (fun c28 => ?_)
          refine V_aload_0 (d_ru_readTest_31 (d+1)) ?_
          refine V_iload_1 (d_ru_readTest_32 (d+1)) ?_
          refine V_cvI1 (d_ru_readTest_33 (d+1)) (ml_ru_54 d) (mv_ru_readBoth d) (Nat.le_refl _) (Nat.le_of_ble_eq_true rfl) is_ru (hP k (by omega) d F3 (L ++ c0) o _ _ _ ho (by omega) t3 (hc2.fr k3) (by omega) h1) ?_
          rintro x4 F4 ⟨rfl, b1, b2, b3⟩
          refine V_if_ne 41 (d_ru_readTest_36 (d+1)) (by decide) (by omega) (fun c36 => by omega) (fun c36 => ?_)
          refine V_iconst 0 (d_ru_readTest_39 (d+1)) ?_
          refine V_ireturn (d_ru_readTest_40 (d+1)) (hR _ _ (by decide) ?_)
          rw [hrr]
          exact ⟨rfl, b1, b2, (hf.tr k3.r).tr b3⟩
        · have hl1 := rd_len k 6 o _ _ _ _ _ hsk.2.1 h1
          obtain ⟨r5, h5, h6⟩ := ob_pre1 h2
          refine V_iload_2 (d_ru_readTest_12 (d+1)) ?_
          refine V_sipush 1600 (d_ru_readTest_13 (d+1)) (by decide) ?_
          refine V_icmp_ge 55 (d_ru_readTest_16 (d+1)) (by decide) (by omega) (by omega) (fun c16 => by omega) (fun c16 => ?_)
          refine V_aload_0 (d_ru_readTest_19 (d+1)) ?_
          refine V_getR (d_ru_readTest_20 (d+1)) fl_ru_29 is_ru r_ru_tape ?_
          refine V_bipush 16 (d_ru_readTest_23 (d+1)) (by decide) ?_
          refine V_cvI1 (d_ru_readTest_25 (d+1)) ml_ru_57 mv_tp_passOverWord (Nat.le_trans (by decide) hd10) (Nat.le_of_ble_eq_true rfl) is_tp (ok_passOverWord hT2 (by decide)) ?_
          rintro x F3 ⟨hx, a3, a4, k3⟩
          obtain ⟨rfl, -, t3⟩ := hx.resolve_right (fun h => h.2.1 hs)
          refine V_if_eq 55 (d_ru_readTest_28 (d+1)) (by decide) (by omega) (fun c28 => by omega) (fun c28 => ?_)
          refine V_aload_0 (d_ru_readTest_31 (d+1)) ?_
          refine V_iload_1 (d_ru_readTest_32 (d+1)) ?_
          refine V_cvI1 (d_ru_readTest_33 (d+1)) (ml_ru_54 d) (mv_ru_readBoth d) (Nat.le_refl _) (Nat.le_of_ble_eq_true rfl) is_ru (hP k (by omega) d F3 (L ++ c0) o _ _ _ ho (by omega) t3 (hc2.fr k3) (by omega) h1) ?_
          rintro x4 F4 ⟨rfl, t4, cd4, a5, a6, k4⟩
          refine V_if_ne 41 (d_ru_readTest_36 (d+1)) (by decide) (by omega) (fun c36 => ?_) (fun c36 => by omega)
          refine V_aload_0 (d_ru_readTest_41 (d+1)) ?_
          refine V_sipush (-216) (d_ru_readTest_42 (d+1)) (by decide) ?_
          refine V_cvI1 (d_ru_readTest_45 (d+1)) ml_ru_60 mv_ru_emit (Nat.le_trans (by decide) hd10) (Nat.le_of_ble_eq_true rfl) is_ru (ok_emit (c := 15) cd4 (by rw [List.length_append]; show (L ++ c0).length + cp.length < 1600; omega) rfl) ?_
          rintro x5 F5 ⟨rfl, cd5, k5⟩
          refine V_pop (d_ru_readTest_48 (d+1)) rfl ?_
          refine V_iinc_2 (d_ru_readTest_49 (d+1)) rfl ?_
          refine V_goto 12 (d_ru_readTest_52 (d+1)) (by decide) ?_
          refine ih F5 q3 d3 (i + 1) (c0 ++ (cp ++ [15])) r5 (by omega) h5 ?_ ?_ ?_ ?_ ?_ ?_ ?_ (by omega) (by omega)
          · rw [hrr, h6, pre_pre]
          · exact t4.fr (fun j k hj => k5 j k (by omega) (by omega))
          · rw [← List.append_assoc, ← List.append_assoc]; exact cd5
          · rw [← List.append_assoc, ← List.append_assoc, List.length_append, List.length_append]
            simp only [List.length_cons, List.length_nil]; push_cast; omega
          · exact ((hf.tr k3.r).tr k4).tr (fun j k a b c => k5 j k b c)
          · rw [k5 _ _ (by decide) (by decide), a5, a3, f3]
          · rw [k5 _ _ (by decide) (by decide), a6, a4, f4]
      · rw [if_neg hs] at hr3
        cases hr3
        refine V_iload_2 (d_ru_readTest_12 (d+1)) ?_
        refine V_sipush 1600 (d_ru_readTest_13 (d+1)) (by decide) ?_
        refine V_icmp_ge 55 (d_ru_readTest_16 (d+1)) (by decide) (by omega) (by omega) (fun c16 => by omega) (fun c16 => ?_)
        refine V_aload_0 (d_ru_readTest_19 (d+1)) ?_
        refine V_getR (d_ru_readTest_20 (d+1)) fl_ru_29 is_ru r_ru_tape ?_
        refine V_bipush 16 (d_ru_readTest_23 (d+1)) (by decide) ?_
        refine V_cvI1 (d_ru_readTest_25 (d+1)) ml_ru_57 mv_tp_passOverWord (Nat.le_trans (by decide) hd10) (Nat.le_of_ble_eq_true rfl) is_tp (ok_passOverWord hT2 (by decide)) ?_
        rintro x F3 ⟨hx, a3, a4, k3⟩
        obtain ⟨rfl, -, t3⟩ := hx.resolve_left (fun h => hs h.2.1)
        refine V_if_eq 55 (d_ru_readTest_28 (d+1)) (by decide) (by omega) (fun c28 => ?_) (fun c28 => by omega)
        refine V_iconst 1 (d_ru_readTest_55 (d+1)) ?_
        refine V_ireturn (d_ru_readTest_56 (d+1)) (hR _ _ (by decide) ?_)
        rw [hrr]
        exact ⟨rfl, t3, by show cdS _ (L ++ (c0 ++ [])); rw [List.append_nil]; exact hc2.fr k3, by rw [a3, f3], by rw [a4, f4], hf.tr k3.r⟩
  have hr3 : ob (rd T N n 6 o p e) (fun c q r => ob (rd T N n 9 o q r) (fun c2 q r => some (.inr (c ++ c2, q, r)))) = some r := hr
  rcases ob_cases hr3 with ⟨e0, h1, h2⟩ | ⟨cp, q3, d3, h1, h2⟩
  · subst h2
    refine V_aload_0 (d_ru_readTest_0 (d+1)) ?_
    refine V_iload_1 (d_ru_readTest_1 (d+1)) ?_
    refine V_cvI1 (d_ru_readTest_2 (d+1)) (ml_ru_54 d) (mv_ru_readBoth d) (Nat.le_refl _) (Nat.le_of_ble_eq_true rfl) is_ru (hP n (by omega) d f L o p e _ ho (by omega) hT hc hL h1) ?_
    rintro x4 F4 ⟨rfl, b1, b2, b3⟩
    refine V_if_ne 10 (d_ru_readTest_5 (d+1)) (by decide) (by omega) (fun c5 => by omega) (fun c5 => ?_)
    refine V_iconst 0 (d_ru_readTest_8 (d+1)) ?_
    refine V_ireturn (d_ru_readTest_9 (d+1)) (hR _ _ (by decide) ?_)
    exact ⟨rfl, b1, b2, b3⟩
  · have hl1 := rd_len n 6 o _ _ _ _ _ hp.2.1 h1
    have hl2 := hl1.2.2 (by decide)
    obtain ⟨r5, h5, h6⟩ := ob_pre h2
    refine V_aload_0 (d_ru_readTest_0 (d+1)) ?_
    refine V_iload_1 (d_ru_readTest_1 (d+1)) ?_
    refine V_cvI1 (d_ru_readTest_2 (d+1)) (ml_ru_54 d) (mv_ru_readBoth d) (Nat.le_refl _) (Nat.le_of_ble_eq_true rfl) is_ru (hP n (by omega) d f L o p e _ ho (by omega) hT hc hL h1) ?_
    rintro x4 F4 ⟨rfl, t4, cd4, a5, a6, k4⟩
    refine V_if_ne 10 (d_ru_readTest_5 (d+1)) (by decide) (by omega) (fun c5 => ?_) (fun c5 => by omega)
    refine V_iconst 0 (d_ru_readTest_10 (d+1)) ?_
    refine V_istore_2 (d_ru_readTest_11 (d+1)) rfl ?_
    exact loop n F4 q3 d3 0 cp r5 (by omega) h5 h6 t4 cd4 (by rw [List.length_append]; push_cast; omega) k4 a5 a6 (by omega) (by omega)
end RU1
