/-! the class reads rules: parts, facts -/
def rdPart (T : Int → Int) (N : Int) (n : Nat) (o p e : Int) : q_O := if isG (lk T N p) = true then rdNum T N p e
      else if lk T N p = 40 then (if o < 6 then ob (rd T N n 3 (o + 1) (sk T N (p + 1)) e) (fun c q r => os (l_sign T N 41 q r) (fun q r => some (.inr (c, q, r)))) else some (.inl (4, p)))
      else if isV (wd T N p e) then some (.inr ([wcd (wd T N p e)], sk T N (le T N p), le T N p))
      else if wd T N p e = 23 ∨ wd T N p e = 24 then (if lk T N (sk T N (le T N p)) = 40 then (if o < 6 then ob (rd T N n 3 (o + 1) (sk T N (sk T N (le T N p) + 1)) (le T N p)) (fun c q r => os (l_sign T N 44 q r) (fun q r => ob (rd T N n 3 (o + 1) q r) (fun c2 q r => os (l_sign T N 41 q r) (fun q r => some (.inr (c ++ (c2 ++ [if wd T N p e = 23 then 5 else 6]), q, r)))))) else some (.inl (4, sk T N (le T N p)))) else some (.inl (1, sk T N (le T N p))))
      else some (.inl (1, p))
def rdFact (T : Int → Int) (N : Int) (n : Nat) (o p e : Int) : q_O := if wd T N p e = 18 then (if o < 6 then ob (rd T N n 5 (o + 1) (sk T N (le T N p)) (le T N p)) (fun c q r => some (.inr (c ++ [16], q, r))) else some (.inl (4, p)))
      else if wd T N p e = 19 then some (.inr ([17], sk T N (le T N p), le T N p))
      else if lk T N p = 91 then (if o < 6 then ob (rd T N n 8 (o + 1) (sk T N (p + 1)) e) (fun c q r => os (l_sign T N 93 q r) (fun q r => some (.inr (c, q, r)))) else some (.inl (4, p)))
      else ob (rd T N n 3 o p e) (fun c q r => if lk T N q = 60 ∨ lk T N q = 62 ∨ lk T N q = 61 then ob (rd T N n 3 o (sk T N (q + 1)) r) (fun c2 q2 r2 => some (.inr (c ++ (c2 ++ [if lk T N q = 60 then 11 else if lk T N q = 62 then 12 else 13]), q2, r2))) else some (.inl (1, q)))
theorem rd_0 {T : Int → Int} {N : Int} {n : Nat} {o p e : Int} : rd T N (n + 1) 0 o p e = rdPart T N n o p e := rfl
theorem rd_5 {T : Int → Int} {N : Int} {n : Nat} {o p e : Int} : rd T N (n + 1) 5 o p e = rdFact T N n o p e := rfl
section RU2
variable {D : q_D} {f f' : q_F} {A : q_As} {g h : Int} {T : Int → Int} {N p e : Int}
theorem cV_inl {x : Int} {r : q_R (Int × Int × Int)} {e0 : Int × Int} (h : cV f f' T N p x r) (hr : r = .inl e0) : x = 0 ∧ f' 1 3 = e0.1 ∧ f' 1 4 = e0.2 ∧ cK f f' := by subst hr; exact h
theorem cV_inr {x : Int} {r : q_R (Int × Int × Int)} {v q d : Int} (h : cV f f' T N p x r) (hr : r = .inr (v, q, d)) : x = 1 ∧ tpS f' T N q d ∧ f' 1 6 = v ∧ f' 1 5 = p ∧ f' 1 3 = f 1 3 ∧ f' 1 4 = f 1 4 ∧ cK f f' := by subst hr; exact h
theorem l_num_rg {v q d : Int} (hp : p ≤ N) (h : l_num T N 0 9999 p e = .inr (v, q, d)) : 0 ≤ v ∧ v ≤ 9999 ∧ p + 1 ≤ q ∧ q ≤ N := by
  unfold l_num at h
  split at h
  · next hg =>
    have hpN := lk_isG hg.1
    have h1 := de_rg (T := T) hp
    have h2 := de_lt hpN.1 hpN.2
    have h3 := sk_rg (T := T) (p := de T N p) h1.2.1
    split at h
    · split at h
      · next hv => cases h; omega
      · cases h
    · cases h
  · cases h
/-- what stands behind min and max -/
def rdTwo (T : Int → Int) (N : Int) (n : Nat) (o q d : Int) (z : Int) : q_O := if lk T N q = 40 then (if o < 6 then ob (rd T N n 3 (o + 1) (sk T N (q + 1)) d) (fun c q r => os (l_sign T N 44 q r) (fun q r => ob (rd T N n 3 (o + 1) q r) (fun c2 q r => os (l_sign T N 41 q r) (fun q r => some (.inr (c ++ (c2 ++ [z]), q, r)))))) else some (.inl (4, q))) else some (.inl (1, q))
/-- the class's readOfTwo: the same, but the last code -/
def cTwo (f f' : q_F) (T : Int → Int) (N x : Int) (L : List Int) (z : Int) (r : q_R (List Int × Int × Int)) : Prop := match r with
  | .inl e => x = 0 ∧ f' 1 3 = e.1 ∧ f' 1 4 = e.2 ∧ rK f f'
  | .inr s => x = 1 ∧ tpS f' T N s.2.1 s.2.2 ∧ (∃ c, s.1 = c ++ [z] ∧ cdS f' (L ++ c) ∧ ((L ++ c).length : Int) < s.2.1) ∧ f' 1 3 = f 1 3 ∧ f' 1 4 = f 1 4 ∧ rK f f'
theorem ok_readOfTwo {n : Nat} (hS : okR D g h T N m_ru_readSum 13 3 n) {d : Nat} {L : List Int} {o q d1 z : Int} {r : q_R (List Int × Int × Int)} (ho : 0 ≤ o ∧ o ≤ 6) (hd : 10 + 4 * (6 - o).toNat ≤ d) (hT : tpS f T N q d1) (hc : cdS f L) (hL : (L.length : Int) ≤ q) (hr : rdTwo T N n o q d1 z = some r) : OkI D (m_ru_readOfTwo d) [vr D 4, vi o] (Zg g h) f (fun x f' => cTwo f f' T N x L z r) := by
  obtain ⟨d, rfl⟩ : ∃ d', d = d' + 1 := ⟨d - 1, by omega⟩
  have hd10 : 10 ≤ d + 1 := by omega
  have hp := hT.pr
  have hlk := lk_rg hT.1 hp.1
  have hpl : tpS (q_up f 1 2 q) T N q d1 := hT.pl
  have hpc : cdS (q_up f 1 2 q) L := hc.fr (cK.refl f).up
  have g3 : (q_up f 1 2 q) 1 3 = f 1 3 := q_up_ne (Or.inr (by decide))
  have g4 : (q_up f 1 2 q) 1 4 = f 1 4 := q_up_ne (Or.inr (by decide))
  have hf1 : rK f (q_up f 1 2 q) := (cK.refl f).up.r
  unfold rdTwo at hr
  refine OkB_of (L0 := [vr D 4, vi o]) mi0_ru_readOfTwo rfl rfl (Nat.le_of_ble_eq_true rfl) (fun C hR => ?_)
  by_cases hl : lk T N q = 40
  · rw [if_pos hl] at hr
    have hqN := (lk_of (by decide) hl).1
    have hsk := sk_ge (T := T) hqN
    have hsg : l_sign T N 40 q d1 = .inr (sk T N (q + 1), d1) := by unfold l_sign; rw [if_pos hl]
    by_cases ho6 : o < 6
    · rw [if_pos ho6] at hr
      have dS : 13 + 4 * (6 - (o + 1)).toNat ≤ d := by omega
      rcases ob_cases hr with ⟨e0, h1, h2⟩ | ⟨c1, q1, r1, h1, h2⟩
      · subst h2
        refine V_aload_0 (d_ru_readOfTwo_0 (d+1)) ?_
        refine V_getR (d_ru_readOfTwo_1 (d+1)) fl_ru_29 is_ru r_ru_tape ?_
        refine V_cvI0 (d_ru_readOfTwo_4 (d+1)) ml_ru_77 mv_tp_skipBlanks (Nat.le_trans (by decide) hd10) (Nat.le_of_ble_eq_true rfl) is_tp (ok_skipBlanks hT) ?_
        rintro _ f2 ⟨rfl, e2⟩
        rw [e2]; clear e2 f2
        refine V_bipush 40 (d_ru_readOfTwo_7 (d+1)) (by decide) ?_
        refine V_icmp_eq 20 (d_ru_readOfTwo_9 (d+1)) (by decide) (by omega) (by omega) (fun c9 => ?_) (fun c9 => by omega)
        refine V_aload_0 (d_ru_readOfTwo_20 (d+1)) ?_
        refine V_iload_1 (d_ru_readOfTwo_21 (d+1)) ?_
        refine V_cvI1 (d_ru_readOfTwo_22 (d+1)) ml_ru_70 mv_ru_mayOpen (Nat.le_trans (by decide) hd10) (Nat.le_of_ble_eq_true rfl) is_ru (ok_mayOpen (q_up_eq _ _ _ _) ho) ?_
        rintro x F2 hx
        obtain ⟨rfl, -, e2⟩ := hx.resolve_right (fun h => h.2.1 ho6)
        subst e2
        refine V_if_eq 88 (d_ru_readOfTwo_25 (d+1)) (by decide) (by omega) (fun c25 => by omega) (fun c25 => ?_)
        refine V_aload_0 (d_ru_readOfTwo_28 (d+1)) ?_
        refine V_getR (d_ru_readOfTwo_29 (d+1)) fl_ru_29 is_ru r_ru_tape ?_
        refine V_bipush 40 (d_ru_readOfTwo_32 (d+1)) (by decide) ?_
        refine V_cvI1 (d_ru_readOfTwo_34 (d+1)) ml_ru_80 mv_tp_takeSign (Nat.le_trans (by decide) hd10) (Nat.le_of_ble_eq_true rfl) is_tp (ok_takeSign hpl (by decide)) ?_
        rintro x F3 hx
        obtain ⟨rfl, t3, a3, a4, k3⟩ := cO_inr hx hsg
        refine V_if_eq 88 (d_ru_readOfTwo_37 (d+1)) (by decide) (by omega) (fun c37 => by omega) (fun c37 => ?_)
        refine V_aload_0 (d_ru_readOfTwo_40 (d+1)) ?_
        refine V_iload_1 (d_ru_readOfTwo_41 (d+1)) ?_
        refine V_iconst 1 (d_ru_readOfTwo_42 (d+1)) ?_
        refine V_iadd (d_ru_readOfTwo_43 (d+1)) ?_
        refine V_cvI1 (d_ru_readOfTwo_44 (d+1)) (ml_ru_42 d) (mv_ru_readSum d) (Nat.le_refl _) (Nat.le_of_ble_eq_true rfl) is_ru (hS d F3 L (o + 1) _ _ _ (by omega) dS t3 (hpc.fr k3) (by omega) h1) ?_
        rintro x4 F4 ⟨rfl, b1, b2, b3⟩
        refine V_if_eq 88 (d_ru_readOfTwo_47 (d+1)) (by decide) (by omega) (fun c47 => ?_) (fun c47 => by omega)
        refine V_iconst 0 (d_ru_readOfTwo_88 (d+1)) ?_
        refine V_ireturn (d_ru_readOfTwo_89 (d+1)) (hR _ _ (by decide) ?_)
        exact ⟨rfl, b1, b2, (hf1.tr k3.r).tr b3⟩
      · have hl1 := rd_len n 3 _ _ _ _ _ _ hsk.2 h1
        rcases os_cases h2 with ⟨e0, h3, h4⟩ | ⟨q2, r2, h3, h4⟩
        · subst h4
          refine V_aload_0 (d_ru_readOfTwo_0 (d+1)) ?_
          refine V_getR (d_ru_readOfTwo_1 (d+1)) fl_ru_29 is_ru r_ru_tape ?_
          refine V_cvI0 (d_ru_readOfTwo_4 (d+1)) ml_ru_77 mv_tp_skipBlanks (Nat.le_trans (by decide) hd10) (Nat.le_of_ble_eq_true rfl) is_tp (ok_skipBlanks hT) ?_
          rintro _ f2 ⟨rfl, e2⟩
          rw [e2]; clear e2 f2
          refine V_bipush 40 (d_ru_readOfTwo_7 (d+1)) (by decide) ?_
          refine V_icmp_eq 20 (d_ru_readOfTwo_9 (d+1)) (by decide) (by omega) (by omega) (fun c9 => ?_) (fun c9 => by omega)
          refine V_aload_0 (d_ru_readOfTwo_20 (d+1)) ?_
          refine V_iload_1 (d_ru_readOfTwo_21 (d+1)) ?_
          refine V_cvI1 (d_ru_readOfTwo_22 (d+1)) ml_ru_70 mv_ru_mayOpen (Nat.le_trans (by decide) hd10) (Nat.le_of_ble_eq_true rfl) is_ru (ok_mayOpen (q_up_eq _ _ _ _) ho) ?_
          rintro x F2 hx
          obtain ⟨rfl, -, e2⟩ := hx.resolve_right (fun h => h.2.1 ho6)
          subst e2
          refine V_if_eq 88 (d_ru_readOfTwo_25 (d+1)) (by decide) (by omega) (fun c25 => by omega) (fun c25 => ?_)
          refine V_aload_0 (d_ru_readOfTwo_28 (d+1)) ?_
          refine V_getR (d_ru_readOfTwo_29 (d+1)) fl_ru_29 is_ru r_ru_tape ?_
          refine V_bipush 40 (d_ru_readOfTwo_32 (d+1)) (by decide) ?_
          refine V_cvI1 (d_ru_readOfTwo_34 (d+1)) ml_ru_80 mv_tp_takeSign (Nat.le_trans (by decide) hd10) (Nat.le_of_ble_eq_true rfl) is_tp (ok_takeSign hpl (by decide)) ?_
          rintro x F3 hx
          obtain ⟨rfl, t3, a3, a4, k3⟩ := cO_inr hx hsg
          refine V_if_eq 88 (d_ru_readOfTwo_37 (d+1)) (by decide) (by omega) (fun c37 => by omega) (fun c37 => ?_)
          refine V_aload_0 (d_ru_readOfTwo_40 (d+1)) ?_
          refine V_iload_1 (d_ru_readOfTwo_41 (d+1)) ?_
          refine V_iconst 1 (d_ru_readOfTwo_42 (d+1)) ?_
          refine V_iadd (d_ru_readOfTwo_43 (d+1)) ?_
          refine V_cvI1 (d_ru_readOfTwo_44 (d+1)) (ml_ru_42 d) (mv_ru_readSum d) (Nat.le_refl _) (Nat.le_of_ble_eq_true rfl) is_ru (hS d F3 L (o + 1) _ _ _ (by omega) dS t3 (hpc.fr k3) (by omega) h1) ?_
          rintro x4 F4 ⟨rfl, t4, cd4, a5, a6, k4⟩
          refine V_if_eq 88 (d_ru_readOfTwo_47 (d+1)) (by decide) (by omega) (fun c47 => by omega) (fun c47 => ?_)
          refine V_aload_0 (d_ru_readOfTwo_50 (d+1)) ?_
          refine V_getR (d_ru_readOfTwo_51 (d+1)) fl_ru_29 is_ru r_ru_tape ?_
          refine V_bipush 44 (d_ru_readOfTwo_54 (d+1)) (by decide) ?_
          refine V_cvI1 (d_ru_readOfTwo_56 (d+1)) ml_ru_80 mv_tp_takeSign (Nat.le_trans (by decide) hd10) (Nat.le_of_ble_eq_true rfl) is_tp (ok_takeSign t4 (by decide)) ?_
          rintro x5 F5 hx5
          obtain ⟨rfl, b1, b2, b3⟩ := cO_inl hx5 h3
          refine V_if_eq 88 (d_ru_readOfTwo_59 (d+1)) (by decide) (by omega) (fun c59 => ?_) (fun c59 => by omega)
          refine V_iconst 0 (d_ru_readOfTwo_88 (d+1)) ?_
          refine V_ireturn (d_ru_readOfTwo_89 (d+1)) (hR _ _ (by decide) ?_)
          exact ⟨rfl, b1, b2, ((hf1.tr k3.r).tr k4).tr b3.r⟩
        · have hs2 := l_sign_some (by decide) h3
          rcases ob_cases h4 with ⟨e0, h5, h6⟩ | ⟨c2, q3, r3, h5, h6⟩
          · subst h6
            refine V_aload_0 (d_ru_readOfTwo_0 (d+1)) ?_
            refine V_getR (d_ru_readOfTwo_1 (d+1)) fl_ru_29 is_ru r_ru_tape ?_
            refine V_cvI0 (d_ru_readOfTwo_4 (d+1)) ml_ru_77 mv_tp_skipBlanks (Nat.le_trans (by decide) hd10) (Nat.le_of_ble_eq_true rfl) is_tp (ok_skipBlanks hT) ?_
            rintro _ f2 ⟨rfl, e2⟩
            rw [e2]; clear e2 f2
            refine V_bipush 40 (d_ru_readOfTwo_7 (d+1)) (by decide) ?_
            refine V_icmp_eq 20 (d_ru_readOfTwo_9 (d+1)) (by decide) (by omega) (by omega) (fun c9 => ?_) (fun c9 => by omega)
            refine V_aload_0 (d_ru_readOfTwo_20 (d+1)) ?_
            refine V_iload_1 (d_ru_readOfTwo_21 (d+1)) ?_
            refine V_cvI1 (d_ru_readOfTwo_22 (d+1)) ml_ru_70 mv_ru_mayOpen (Nat.le_trans (by decide) hd10) (Nat.le_of_ble_eq_true rfl) is_ru (ok_mayOpen (q_up_eq _ _ _ _) ho) ?_
            rintro x F2 hx
            obtain ⟨rfl, -, e2⟩ := hx.resolve_right (fun h => h.2.1 ho6)
            subst e2
            refine V_if_eq 88 (d_ru_readOfTwo_25 (d+1)) (by decide) (by omega) (fun c25 => by omega) (fun c25 => ?_)
            refine V_aload_0 (d_ru_readOfTwo_28 (d+1)) ?_
            refine V_getR (d_ru_readOfTwo_29 (d+1)) fl_ru_29 is_ru r_ru_tape ?_
            refine V_bipush 40 (d_ru_readOfTwo_32 (d+1)) (by decide) ?_
            refine V_cvI1 (d_ru_readOfTwo_34 (d+1)) ml_ru_80 mv_tp_takeSign (Nat.le_trans (by decide) hd10) (Nat.le_of_ble_eq_true rfl) is_tp (ok_takeSign hpl (by decide)) ?_
            rintro x F3 hx
            obtain ⟨rfl, t3, a3, a4, k3⟩ := cO_inr hx hsg
            refine V_if_eq 88 (d_ru_readOfTwo_37 (d+1)) (by decide) (by omega) (fun c37 => by omega) (fun c37 => ?_)
            refine V_aload_0 (d_ru_readOfTwo_40 (d+1)) ?_
            refine V_iload_1 (d_ru_readOfTwo_41 (d+1)) ?_
            refine V_iconst 1 (d_ru_readOfTwo_42 (d+1)) ?_
            refine V_iadd (d_ru_readOfTwo_43 (d+1)) ?_
            refine V_cvI1 (d_ru_readOfTwo_44 (d+1)) (ml_ru_42 d) (mv_ru_readSum d) (Nat.le_refl _) (Nat.le_of_ble_eq_true rfl) is_ru (hS d F3 L (o + 1) _ _ _ (by omega) dS t3 (hpc.fr k3) (by omega) h1) ?_
            rintro x4 F4 ⟨rfl, t4, cd4, a5, a6, k4⟩
            refine V_if_eq 88 (d_ru_readOfTwo_47 (d+1)) (by decide) (by omega) (fun c47 => by omega) (fun c47 => ?_)
            refine V_aload_0 (d_ru_readOfTwo_50 (d+1)) ?_
            refine V_getR (d_ru_readOfTwo_51 (d+1)) fl_ru_29 is_ru r_ru_tape ?_
            refine V_bipush 44 (d_ru_readOfTwo_54 (d+1)) (by decide) ?_
            refine V_cvI1 (d_ru_readOfTwo_56 (d+1)) ml_ru_80 mv_tp_takeSign (Nat.le_trans (by decide) hd10) (Nat.le_of_ble_eq_true rfl) is_tp (ok_takeSign t4 (by decide)) ?_
            rintro x5 F5 hx5
            obtain ⟨rfl, t5, a7, a8, k5⟩ := cO_inr hx5 h3
            refine V_if_eq 88 (d_ru_readOfTwo_59 (d+1)) (by decide) (by omega) (fun c59 => by omega) (fun c59 => ?_)
            refine V_aload_0 (d_ru_readOfTwo_62 (d+1)) ?_
            refine V_iload_1 (d_ru_readOfTwo_63 (d+1)) ?_
            refine V_iconst 1 (d_ru_readOfTwo_64 (d+1)) ?_
            refine V_iadd (d_ru_readOfTwo_65 (d+1)) ?_
            refine V_cvI1 (d_ru_readOfTwo_66 (d+1)) (ml_ru_42 d) (mv_ru_readSum d) (Nat.le_refl _) (Nat.le_of_ble_eq_true rfl) is_ru (hS d F5 (L ++ c1) (o + 1) _ _ _ (by omega) dS t5 (cd4.fr k5) (by rw [List.length_append]; push_cast; omega) h5) ?_
            rintro x6 F6 ⟨rfl, b1, b2, b3⟩
            refine V_if_eq 88 (d_ru_readOfTwo_69 (d+1)) (by decide) (by omega) (fun c69 => ?_) (fun c69 => by omega)
            refine V_iconst 0 (d_ru_readOfTwo_88 (d+1)) ?_
            refine V_ireturn (d_ru_readOfTwo_89 (d+1)) (hR _ _ (by decide) ?_)
            exact ⟨rfl, b1, b2, (((hf1.tr k3.r).tr k4).tr k5.r).tr b3⟩
          · have hl3 := rd_len n 3 _ _ _ _ _ _ hs2.2.2.2.2.2 h5
            rcases os_cases h6 with ⟨e0, h7, h8⟩ | ⟨q4, r4, h7, h8⟩
            · subst h8
              refine V_aload_0 (d_ru_readOfTwo_0 (d+1)) ?_
              refine V_getR (d_ru_readOfTwo_1 (d+1)) fl_ru_29 is_ru r_ru_tape ?_
              refine V_cvI0 (d_ru_readOfTwo_4 (d+1)) ml_ru_77 mv_tp_skipBlanks (Nat.le_trans (by decide) hd10) (Nat.le_of_ble_eq_true rfl) is_tp (ok_skipBlanks hT) ?_
              rintro _ f2 ⟨rfl, e2⟩
              rw [e2]; clear e2 f2
              refine V_bipush 40 (d_ru_readOfTwo_7 (d+1)) (by decide) ?_
              refine V_icmp_eq 20 (d_ru_readOfTwo_9 (d+1)) (by decide) (by omega) (by omega) (fun c9 => ?_) (fun c9 => by omega)
              refine V_aload_0 (d_ru_readOfTwo_20 (d+1)) ?_
              refine V_iload_1 (d_ru_readOfTwo_21 (d+1)) ?_
              refine V_cvI1 (d_ru_readOfTwo_22 (d+1)) ml_ru_70 mv_ru_mayOpen (Nat.le_trans (by decide) hd10) (Nat.le_of_ble_eq_true rfl) is_ru (ok_mayOpen (q_up_eq _ _ _ _) ho) ?_
              rintro x F2 hx
              obtain ⟨rfl, -, e2⟩ := hx.resolve_right (fun h => h.2.1 ho6)
              subst e2
              refine V_if_eq 88 (d_ru_readOfTwo_25 (d+1)) (by decide) (by omega) (fun c25 => by omega) (fun c25 => ?_)
              refine V_aload_0 (d_ru_readOfTwo_28 (d+1)) ?_
              refine V_getR (d_ru_readOfTwo_29 (d+1)) fl_ru_29 is_ru r_ru_tape ?_
              refine V_bipush 40 (d_ru_readOfTwo_32 (d+1)) (by decide) ?_
              refine V_cvI1 (d_ru_readOfTwo_34 (d+1)) ml_ru_80 mv_tp_takeSign (Nat.le_trans (by decide) hd10) (Nat.le_of_ble_eq_true rfl) is_tp (ok_takeSign hpl (by decide)) ?_
              rintro x F3 hx
              obtain ⟨rfl, t3, a3, a4, k3⟩ := cO_inr hx hsg
              refine V_if_eq 88 (d_ru_readOfTwo_37 (d+1)) (by decide) (by omega) (fun c37 => by omega) (fun c37 => ?_)
              refine V_aload_0 (d_ru_readOfTwo_40 (d+1)) ?_
              refine V_iload_1 (d_ru_readOfTwo_41 (d+1)) ?_
              refine V_iconst 1 (d_ru_readOfTwo_42 (d+1)) ?_
              refine V_iadd (d_ru_readOfTwo_43 (d+1)) ?_
              refine V_cvI1 (d_ru_readOfTwo_44 (d+1)) (ml_ru_42 d) (mv_ru_readSum d) (Nat.le_refl _) (Nat.le_of_ble_eq_true rfl) is_ru (hS d F3 L (o + 1) _ _ _ (by omega) dS t3 (hpc.fr k3) (by omega) h1) ?_
              rintro x4 F4 ⟨rfl, t4, cd4, a5, a6, k4⟩
              refine V_if_eq 88 (d_ru_readOfTwo_47 (d+1)) (by decide) (by omega) (fun c47 => by omega) (fun c47 => ?_)
              refine V_aload_0 (d_ru_readOfTwo_50 (d+1)) ?_
              refine V_getR (d_ru_readOfTwo_51 (d+1)) fl_ru_29 is_ru r_ru_tape ?_
              refine V_bipush 44 (d_ru_readOfTwo_54 (d+1)) (by decide) ?_
              refine V_cvI1 (d_ru_readOfTwo_56 (d+1)) ml_ru_80 mv_tp_takeSign (Nat.le_trans (by decide) hd10) (Nat.le_of_ble_eq_true rfl) is_tp (ok_takeSign t4 (by decide)) ?_
              rintro x5 F5 hx5
              obtain ⟨rfl, t5, a7, a8, k5⟩ := cO_inr hx5 h3
              refine V_if_eq 88 (d_ru_readOfTwo_59 (d+1)) (by decide) (by omega) (fun c59 => by omega) (fun c59 => ?_)
              refine V_aload_0 (d_ru_readOfTwo_62 (d+1)) ?_
              refine V_iload_1 (d_ru_readOfTwo_63 (d+1)) ?_
              refine V_iconst 1 (d_ru_readOfTwo_64 (d+1)) ?_
              refine V_iadd (d_ru_readOfTwo_65 (d+1)) ?_
              refine V_cvI1 (d_ru_readOfTwo_66 (d+1)) (ml_ru_42 d) (mv_ru_readSum d) (Nat.le_refl _) (Nat.le_of_ble_eq_true rfl) is_ru (hS d F5 (L ++ c1) (o + 1) _ _ _ (by omega) dS t5 (cd4.fr k5) (by rw [List.length_append]; push_cast; omega) h5) ?_
              rintro x6 F6 ⟨rfl, t6, cd6, a9, a10, k6⟩
              refine V_if_eq 88 (d_ru_readOfTwo_69 (d+1)) (by decide) (by omega) (fun c69 => by omega) (fun c69 => ?_)
              refine V_aload_0 (d_ru_readOfTwo_72 (d+1)) ?_
              refine V_getR (d_ru_readOfTwo_73 (d+1)) fl_ru_29 is_ru r_ru_tape ?_
              refine V_bipush 41 (d_ru_readOfTwo_76 (d+1)) (by decide) ?_
              refine V_cvI1 (d_ru_readOfTwo_78 (d+1)) ml_ru_80 mv_tp_takeSign (Nat.le_trans (by decide) hd10) (Nat.le_of_ble_eq_true rfl) is_tp (ok_takeSign t6 (by decide)) ?_
              rintro x7 F7 hx7
              obtain ⟨rfl, b1, b2, b3⟩ := cO_inl hx7 h7
              refine V_if_eq 88 (d_ru_readOfTwo_81 (d+1)) (by decide) (by omega) (fun c81 => ?_) (fun c81 => by omega)
              refine V_iconst 0 (d_ru_readOfTwo_88 (d+1)) ?_
              refine V_ireturn (d_ru_readOfTwo_89 (d+1)) (hR _ _ (by decide) ?_)
              exact ⟨rfl, b1, b2, ((((hf1.tr k3.r).tr k4).tr k5.r).tr k6).tr b3.r⟩
            · have hs4 := l_sign_some (by decide) h7
              cases h8
              refine V_aload_0 (d_ru_readOfTwo_0 (d+1)) ?_
              refine V_getR (d_ru_readOfTwo_1 (d+1)) fl_ru_29 is_ru r_ru_tape ?_
              refine V_cvI0 (d_ru_readOfTwo_4 (d+1)) ml_ru_77 mv_tp_skipBlanks (Nat.le_trans (by decide) hd10) (Nat.le_of_ble_eq_true rfl) is_tp (ok_skipBlanks hT) ?_
              rintro _ f2 ⟨rfl, e2⟩
              rw [e2]; clear e2 f2
              refine V_bipush 40 (d_ru_readOfTwo_7 (d+1)) (by decide) ?_
              refine V_icmp_eq 20 (d_ru_readOfTwo_9 (d+1)) (by decide) (by omega) (by omega) (fun c9 => ?_) (fun c9 => by omega)
              refine V_aload_0 (d_ru_readOfTwo_20 (d+1)) ?_
              refine V_iload_1 (d_ru_readOfTwo_21 (d+1)) ?_
              refine V_cvI1 (d_ru_readOfTwo_22 (d+1)) ml_ru_70 mv_ru_mayOpen (Nat.le_trans (by decide) hd10) (Nat.le_of_ble_eq_true rfl) is_ru (ok_mayOpen (q_up_eq _ _ _ _) ho) ?_
              rintro x F2 hx
              obtain ⟨rfl, -, e2⟩ := hx.resolve_right (fun h => h.2.1 ho6)
              subst e2
              refine V_if_eq 88 (d_ru_readOfTwo_25 (d+1)) (by decide) (by omega) (fun c25 => by omega) (fun c25 => ?_)
              refine V_aload_0 (d_ru_readOfTwo_28 (d+1)) ?_
              refine V_getR (d_ru_readOfTwo_29 (d+1)) fl_ru_29 is_ru r_ru_tape ?_
              refine V_bipush 40 (d_ru_readOfTwo_32 (d+1)) (by decide) ?_
              refine V_cvI1 (d_ru_readOfTwo_34 (d+1)) ml_ru_80 mv_tp_takeSign (Nat.le_trans (by decide) hd10) (Nat.le_of_ble_eq_true rfl) is_tp (ok_takeSign hpl (by decide)) ?_
              rintro x F3 hx
              obtain ⟨rfl, t3, a3, a4, k3⟩ := cO_inr hx hsg
              refine V_if_eq 88 (d_ru_readOfTwo_37 (d+1)) (by decide) (by omega) (fun c37 => by omega) (fun c37 => ?_)
              refine V_aload_0 (d_ru_readOfTwo_40 (d+1)) ?_
              refine V_iload_1 (d_ru_readOfTwo_41 (d+1)) ?_
              refine V_iconst 1 (d_ru_readOfTwo_42 (d+1)) ?_
              refine V_iadd (d_ru_readOfTwo_43 (d+1)) ?_
              refine V_cvI1 (d_ru_readOfTwo_44 (d+1)) (ml_ru_42 d) (mv_ru_readSum d) (Nat.le_refl _) (Nat.le_of_ble_eq_true rfl) is_ru (hS d F3 L (o + 1) _ _ _ (by omega) dS t3 (hpc.fr k3) (by omega) h1) ?_
              rintro x4 F4 ⟨rfl, t4, cd4, a5, a6, k4⟩
              refine V_if_eq 88 (d_ru_readOfTwo_47 (d+1)) (by decide) (by omega) (fun c47 => by omega) (fun c47 => ?_)
              refine V_aload_0 (d_ru_readOfTwo_50 (d+1)) ?_
              refine V_getR (d_ru_readOfTwo_51 (d+1)) fl_ru_29 is_ru r_ru_tape ?_
              refine V_bipush 44 (d_ru_readOfTwo_54 (d+1)) (by decide) ?_
              refine V_cvI1 (d_ru_readOfTwo_56 (d+1)) ml_ru_80 mv_tp_takeSign (Nat.le_trans (by decide) hd10) (Nat.le_of_ble_eq_true rfl) is_tp (ok_takeSign t4 (by decide)) ?_
              rintro x5 F5 hx5
              obtain ⟨rfl, t5, a7, a8, k5⟩ := cO_inr hx5 h3
              refine V_if_eq 88 (d_ru_readOfTwo_59 (d+1)) (by decide) (by omega) (fun c59 => by omega) (fun c59 => ?_)
              refine V_aload_0 (d_ru_readOfTwo_62 (d+1)) ?_
              refine V_iload_1 (d_ru_readOfTwo_63 (d+1)) ?_
              refine V_iconst 1 (d_ru_readOfTwo_64 (d+1)) ?_
              refine V_iadd (d_ru_readOfTwo_65 (d+1)) ?_
              refine V_cvI1 (d_ru_readOfTwo_66 (d+1)) (ml_ru_42 d) (mv_ru_readSum d) (Nat.le_refl _) (Nat.le_of_ble_eq_true rfl) is_ru (hS d F5 (L ++ c1) (o + 1) _ _ _ (by omega) dS t5 (cd4.fr k5) (by rw [List.length_append]; push_cast; omega) h5) ?_
              rintro x6 F6 ⟨rfl, t6, cd6, a9, a10, k6⟩
              refine V_if_eq 88 (d_ru_readOfTwo_69 (d+1)) (by decide) (by omega) (fun c69 => by omega) (fun c69 => ?_)
              refine V_aload_0 (d_ru_readOfTwo_72 (d+1)) ?_
              refine V_getR (d_ru_readOfTwo_73 (d+1)) fl_ru_29 is_ru r_ru_tape ?_
              refine V_bipush 41 (d_ru_readOfTwo_76 (d+1)) (by decide) ?_
              refine V_cvI1 (d_ru_readOfTwo_78 (d+1)) ml_ru_80 mv_tp_takeSign (Nat.le_trans (by decide) hd10) (Nat.le_of_ble_eq_true rfl) is_tp (ok_takeSign t6 (by decide)) ?_
              rintro x7 F7 hx7
              obtain ⟨rfl, t7, a11, a12, k7⟩ := cO_inr hx7 h7
              refine V_if_eq 88 (d_ru_readOfTwo_81 (d+1)) (by decide) (by omega) (fun c81 => by omega) (fun c81 => ?_)
              refine V_iconst 1 (d_ru_readOfTwo_84 (d+1)) ?_
              refine V_goto 89 (d_ru_readOfTwo_85 (d+1)) (by decide) ?_
              refine V_ireturn (d_ru_readOfTwo_89 (d+1)) (hR _ _ (by decide) ?_)
              refine ⟨rfl, t7, ⟨c1 ++ c2, by rw [List.append_assoc], ?_, ?_⟩, ?_, ?_, ((((hf1.tr k3.r).tr k4).tr k5.r).tr k6).tr k7.r⟩
              · rw [← List.append_assoc]; exact cd6.fr k7
              · rw [List.length_append, List.length_append]; push_cast; show _ < q4; omega
              · rw [a11, a9, a7, a5, a3, g3]
              · rw [a12, a10, a8, a6, a4, g4]
    · rw [if_neg ho6] at hr
      cases hr
      refine V_aload_0 (d_ru_readOfTwo_0 (d+1)) ?_
      refine V_getR (d_ru_readOfTwo_1 (d+1)) fl_ru_29 is_ru r_ru_tape ?_
      refine V_cvI0 (d_ru_readOfTwo_4 (d+1)) ml_ru_77 mv_tp_skipBlanks (Nat.le_trans (by decide) hd10) (Nat.le_of_ble_eq_true rfl) is_tp (ok_skipBlanks hT) ?_
      rintro _ f2 ⟨rfl, e2⟩
      rw [e2]; clear e2 f2
      refine V_bipush 40 (d_ru_readOfTwo_7 (d+1)) (by decide) ?_
      refine V_icmp_eq 20 (d_ru_readOfTwo_9 (d+1)) (by decide) (by omega) (by omega) (fun c9 => ?_) (fun c9 => by omega)
      refine V_aload_0 (d_ru_readOfTwo_20 (d+1)) ?_
      refine V_iload_1 (d_ru_readOfTwo_21 (d+1)) ?_
      refine V_cvI1 (d_ru_readOfTwo_22 (d+1)) ml_ru_70 mv_ru_mayOpen (Nat.le_trans (by decide) hd10) (Nat.le_of_ble_eq_true rfl) is_ru (ok_mayOpen (q_up_eq _ _ _ _) ho) ?_
      rintro x F2 hx
      obtain ⟨rfl, -, e2⟩ := hx.resolve_left (fun h => ho6 h.2.1)
      subst e2
      refine V_if_eq 88 (d_ru_readOfTwo_25 (d+1)) (by decide) (by omega) (fun c25 => ?_) (fun c25 => by omega)
      refine V_iconst 0 (d_ru_readOfTwo_88 (d+1)) ?_
      refine V_ireturn (d_ru_readOfTwo_89 (d+1)) (hR _ _ (by decide) ?_)
      exact ⟨rfl, by rw [q_up_ne (Or.inr (by decide)), q_up_eq], q_up_eq _ _ _ _, (cK.refl f).up.up.up.r⟩
  · rw [if_neg hl] at hr
    cases hr
    refine V_aload_0 (d_ru_readOfTwo_0 (d+1)) ?_
    refine V_getR (d_ru_readOfTwo_1 (d+1)) fl_ru_29 is_ru r_ru_tape ?_
    refine V_cvI0 (d_ru_readOfTwo_4 (d+1)) ml_ru_77 mv_tp_skipBlanks (Nat.le_trans (by decide) hd10) (Nat.le_of_ble_eq_true rfl) is_tp (ok_skipBlanks hT) ?_
    rintro _ f2 ⟨rfl, e2⟩
    rw [e2]; clear e2 f2
    refine V_bipush 40 (d_ru_readOfTwo_7 (d+1)) (by decide) ?_
    refine V_icmp_eq 20 (d_ru_readOfTwo_9 (d+1)) (by decide) (by omega) (by omega) (fun c9 => by omega) (fun c9 => ?_)
    refine V_aload_0 (d_ru_readOfTwo_12 (d+1)) ?_
    refine V_getR (d_ru_readOfTwo_13 (d+1)) fl_ru_29 is_ru r_ru_tape ?_
    refine V_cvI0 (d_ru_readOfTwo_16 (d+1)) ml_ru_83 mv_tp_failHere (Nat.le_trans (by decide) hd10) (Nat.le_of_ble_eq_true rfl) is_tp (ok_failHere (q_up_eq _ _ _ _)) ?_
    rintro x f9 ⟨hx, e9⟩
    rw [hx, e9]; clear hx e9 f9
    refine V_ireturn (d_ru_readOfTwo_19 (d+1)) (hR _ _ (by decide) ?_)
    exact ⟨rfl, by rw [q_up_ne (Or.inr (by decide)), q_up_eq], q_up_eq _ _ _ _, (cK.refl f).up.up.up.r⟩
theorem ccd_w {w : Int} (hw : isV w) : ccd (wcd w) = -200 - w := by
  rcases hw with h | h | h | h | h | h <;> subst h <;> decide
theorem ok_readPart {n : Nat} (hS : okR D g h T N m_ru_readSum 13 3 n) : okR D g h T N m_ru_readPart 11 0 (n + 1) := by
  intro d0 f L o p e r ho hd hT hc hL hr
  obtain ⟨d, rfl⟩ : ∃ d, d0 = d + 1 := ⟨d0 - 1, by omega⟩
  have hd10 : 10 ≤ d + 1 := by omega
  have hp := hT.pr
  have hlk := lk_rg hT.1 hp.1
  have hwr := wd_rg (T := T) (N := N) p e
  have hpl : tpS (q_up f 1 2 p) T N p e := hT.pl
  have hpc : cdS (q_up f 1 2 p) L := hc.fr (cK.refl f).up
  have g3 : (q_up f 1 2 p) 1 3 = f 1 3 := q_up_ne (Or.inr (by decide))
  have g4 : (q_up f 1 2 p) 1 4 = f 1 4 := q_up_ne (Or.inr (by decide))
  have hf1 : rK f (q_up f 1 2 p) := (cK.refl f).up.r
  rw [rd_0] at hr
  unfold rdPart at hr
  refine OkB_of (L0 := [vr D 4, vi o, vu, vu]) mi0_ru_readPart rfl rfl (Nat.le_of_ble_eq_true rfl) (fun C hR => ?_)
  by_cases hg : isG (lk T N p) = true
  · rw [if_pos hg] at hr
    unfold rdNum at hr
    cases hn : l_num T N 0 9999 p e with
    | inl e0 =>
      rw [hn] at hr
      cases hr
      refine V_aload_0 (d_ru_readPart_0 (d+1)) ?_
      refine V_getR (d_ru_readPart_1 (d+1)) fl_ru_29 is_ru r_ru_tape ?_
      refine V_cvI0 (d_ru_readPart_4 (d+1)) ml_ru_77 mv_tp_skipBlanks (Nat.le_trans (by decide) hd10) (Nat.le_of_ble_eq_true rfl) is_tp (ok_skipBlanks hT) ?_
      rintro _ f2 ⟨rfl, e2⟩
      rw [e2]; clear e2 f2
      refine V_istore_2 (d_ru_readPart_7 (d+1)) rfl ?_
      refine V_iload_2 (d_ru_readPart_8 (d+1)) ?_
      refine V_csI1 (d_ru_readPart_9 (d+1)) ml_ru_92 ms_tp_isDigit (Nat.le_trans (by decide) hd10) (Nat.le_of_ble_eq_true rfl) (ok_tdigit (by omega)) ?_
      rintro x9 f2 ⟨hx9, e2⟩
      rw [e2]; clear e2 f2
      refine V_if_eq 49 (d_ru_readPart_12 (d+1)) (by decide) (by rcases hx9 with h | h <;> omega) (fun c12 => ?_) (fun c12 => ?_)
      · skip
        exact absurd hg (q_b0 hx9 c12)
      · skip
        refine V_aload_0 (d_ru_readPart_15 (d+1)) ?_
        refine V_getR (d_ru_readPart_16 (d+1)) fl_ru_29 is_ru r_ru_tape ?_
        refine V_iconst 0 (d_ru_readPart_19 (d+1)) ?_
        refine V_sipush 9999 (d_ru_readPart_20 (d+1)) (by decide) ?_
        refine V_cvI2 (d_ru_readPart_23 (d+1)) ml_ru_95 mv_tp_takeNumber (Nat.le_trans (by decide) hd10) (Nat.le_of_ble_eq_true rfl) is_tp (ok_takeNumber hpl (by decide) (by decide)) ?_
        rintro x F3 hx
        obtain ⟨rfl, b1, b2, b3⟩ := cV_inl hx hn
        refine V_if_eq 47 (d_ru_readPart_26 (d+1)) (by decide) (by omega) (fun c26 => ?_) (fun c26 => by omega)
        refine V_iconst 0 (d_ru_readPart_47 (d+1)) ?_
        refine V_ireturn (d_ru_readPart_48 (d+1)) (hR _ _ (by decide) ?_)
        exact ⟨rfl, b1, b2, hf1.tr b3.r⟩
    | inr s =>
      obtain ⟨v, q, d1⟩ := s
      rw [hn] at hr
      cases hr
      have hv := l_num_rg hp.2.1 hn
      refine V_aload_0 (d_ru_readPart_0 (d+1)) ?_
      refine V_getR (d_ru_readPart_1 (d+1)) fl_ru_29 is_ru r_ru_tape ?_
      refine V_cvI0 (d_ru_readPart_4 (d+1)) ml_ru_77 mv_tp_skipBlanks (Nat.le_trans (by decide) hd10) (Nat.le_of_ble_eq_true rfl) is_tp (ok_skipBlanks hT) ?_
      rintro _ f2 ⟨rfl, e2⟩
      rw [e2]; clear e2 f2
      refine V_istore_2 (d_ru_readPart_7 (d+1)) rfl ?_
      refine V_iload_2 (d_ru_readPart_8 (d+1)) ?_
      refine V_csI1 (d_ru_readPart_9 (d+1)) ml_ru_92 ms_tp_isDigit (Nat.le_trans (by decide) hd10) (Nat.le_of_ble_eq_true rfl) (ok_tdigit (by omega)) ?_
      rintro x9 f2 ⟨hx9, e2⟩
      rw [e2]; clear e2 f2
      refine V_if_eq 49 (d_ru_readPart_12 (d+1)) (by decide) (by rcases hx9 with h | h <;> omega) (fun c12 => ?_) (fun c12 => ?_)
      · skip
        exact absurd hg (q_b0 hx9 c12)
      · skip
        refine V_aload_0 (d_ru_readPart_15 (d+1)) ?_
        refine V_getR (d_ru_readPart_16 (d+1)) fl_ru_29 is_ru r_ru_tape ?_
        refine V_iconst 0 (d_ru_readPart_19 (d+1)) ?_
        refine V_sipush 9999 (d_ru_readPart_20 (d+1)) (by decide) ?_
        refine V_cvI2 (d_ru_readPart_23 (d+1)) ml_ru_95 mv_tp_takeNumber (Nat.le_trans (by decide) hd10) (Nat.le_of_ble_eq_true rfl) is_tp (ok_takeNumber hpl (by decide) (by decide)) ?_
        rintro x F3 hx
        obtain ⟨rfl, t3, a6, a5, a3, a4, k3⟩ := cV_inr hx hn
        refine V_if_eq 47 (d_ru_readPart_26 (d+1)) (by decide) (by omega) (fun c26 => by omega) (fun c26 => ?_)
        refine V_aload_0 (d_ru_readPart_29 (d+1)) ?_
        refine V_aload_0 (d_ru_readPart_30 (d+1)) ?_
        refine V_getR (d_ru_readPart_31 (d+1)) fl_ru_29 is_ru r_ru_tape ?_
        refine V_getI (d_ru_readPart_34 (d+1)) fl_ru_99 is_tp ?_
        rw [a6]
        refine V_cvI1 (d_ru_readPart_37 (d+1)) ml_ru_60 mv_ru_emit (Nat.le_trans (by decide) hd10) (Nat.le_of_ble_eq_true rfl) is_ru (ok_emit (c := 1000 + v) (hpc.fr k3) (by omega) (by unfold ccd; rw [if_pos (by omega)]; omega)) ?_
        rintro x5 F5 ⟨rfl, cd5, k5⟩
        refine V_if_eq 47 (d_ru_readPart_40 (d+1)) (by decide) (by omega) (fun c40 => by omega) (fun c40 => ?_)
        refine V_iconst 1 (d_ru_readPart_43 (d+1)) ?_
        refine V_goto 48 (d_ru_readPart_44 (d+1)) (by decide) ?_
        refine V_ireturn (d_ru_readPart_48 (d+1)) (hR _ _ (by decide) ?_)
        exact ⟨rfl, t3.fr (fun j k hj => k5 j k (by omega) (by omega)), cd5, by rw [k5 _ _ (by decide) (by decide), a3, g3], by rw [k5 _ _ (by decide) (by decide), a4, g4], (hf1.tr k3.r).tr (fun j k a b c => k5 j k b c)⟩
  · rw [if_neg hg] at hr
    by_cases hl : lk T N p = 40
    · rw [if_pos hl] at hr
      have hqN := (lk_of (by decide) hl).1
      have hsk := sk_ge (T := T) hqN
      have hsg : l_sign T N 40 p e = .inr (sk T N (p + 1), e) := by unfold l_sign; rw [if_pos hl]
      by_cases ho6 : o < 6
      · rw [if_pos ho6] at hr
        have dS : 13 + 4 * (6 - (o + 1)).toNat ≤ d := by omega
        rcases ob_cases hr with ⟨e0, h1, h2⟩ | ⟨c1, q1, r1, h1, h2⟩
        · subst h2
          refine V_aload_0 (d_ru_readPart_0 (d+1)) ?_
          refine V_getR (d_ru_readPart_1 (d+1)) fl_ru_29 is_ru r_ru_tape ?_
          refine V_cvI0 (d_ru_readPart_4 (d+1)) ml_ru_77 mv_tp_skipBlanks (Nat.le_trans (by decide) hd10) (Nat.le_of_ble_eq_true rfl) is_tp (ok_skipBlanks hT) ?_
          rintro _ f2 ⟨rfl, e2⟩
          rw [e2]; clear e2 f2
          refine V_istore_2 (d_ru_readPart_7 (d+1)) rfl ?_
          refine V_iload_2 (d_ru_readPart_8 (d+1)) ?_
          refine V_csI1 (d_ru_readPart_9 (d+1)) ml_ru_92 ms_tp_isDigit (Nat.le_trans (by decide) hd10) (Nat.le_of_ble_eq_true rfl) (ok_tdigit (by omega)) ?_
          rintro x9 f2 ⟨hx9, e2⟩
          rw [e2]; clear e2 f2
          refine V_if_eq 49 (d_ru_readPart_12 (d+1)) (by decide) (by rcases hx9 with h | h <;> omega) (fun c12 => ?_) (fun c12 => ?_)
          · skip
            refine V_iload_2 (d_ru_readPart_49 (d+1)) ?_
            refine V_bipush 40 (d_ru_readPart_50 (d+1)) (by decide) ?_
            refine V_icmp_ne 103 (d_ru_readPart_52 (d+1)) (by decide) (by omega) (by omega) (fun c52 => by omega) (fun c52 => ?_)
            refine V_aload_0 (d_ru_readPart_55 (d+1)) ?_
            refine V_iload_1 (d_ru_readPart_56 (d+1)) ?_
            refine V_cvI1 (d_ru_readPart_57 (d+1)) ml_ru_70 mv_ru_mayOpen (Nat.le_trans (by decide) hd10) (Nat.le_of_ble_eq_true rfl) is_ru (ok_mayOpen (q_up_eq _ _ _ _) ho) ?_
            rintro x F2 hx
            obtain ⟨rfl, -, e2⟩ := hx.resolve_right (fun h => h.2.1 ho6)
            subst e2
            refine V_if_eq 101 (d_ru_readPart_60 (d+1)) (by decide) (by omega) (fun c60 => by omega) (fun c60 => ?_)
            refine V_aload_0 (d_ru_readPart_63 (d+1)) ?_
            refine V_getR (d_ru_readPart_64 (d+1)) fl_ru_29 is_ru r_ru_tape ?_
            refine V_bipush 40 (d_ru_readPart_67 (d+1)) (by decide) ?_
            refine V_cvI1 (d_ru_readPart_69 (d+1)) ml_ru_80 mv_tp_takeSign (Nat.le_trans (by decide) hd10) (Nat.le_of_ble_eq_true rfl) is_tp (ok_takeSign hpl (by decide)) ?_
            rintro x F3 hx
            obtain ⟨rfl, t3, a3, a4, k3⟩ := cO_inr hx hsg
            refine V_if_eq 101 (d_ru_readPart_72 (d+1)) (by decide) (by omega) (fun c72 => by omega) (fun c72 => ?_)
            refine V_aload_0 (d_ru_readPart_75 (d+1)) ?_
            refine V_iload_1 (d_ru_readPart_76 (d+1)) ?_
            refine V_iconst 1 (d_ru_readPart_77 (d+1)) ?_
            refine V_iadd (d_ru_readPart_78 (d+1)) ?_
            refine V_cvI1 (d_ru_readPart_79 (d+1)) (ml_ru_42 d) (mv_ru_readSum d) (Nat.le_refl _) (Nat.le_of_ble_eq_true rfl) is_ru (hS d F3 L (o + 1) _ _ _ (by omega) dS t3 (hpc.fr k3) (by omega) h1) ?_
            rintro x4 F4 ⟨rfl, b1, b2, b3⟩
            refine V_if_eq 101 (d_ru_readPart_82 (d+1)) (by decide) (by omega) (fun c82 => ?_) (fun c82 => by omega)
            refine V_iconst 0 (d_ru_readPart_101 (d+1)) ?_
            refine V_ireturn (d_ru_readPart_102 (d+1)) (hR _ _ (by decide) ?_)
            exact ⟨rfl, b1, b2, (hf1.tr k3.r).tr b3⟩
          · skip
            exact absurd (q_b1 hx9 c12) hg
        · have hl1 := rd_len n 3 _ _ _ _ _ _ hsk.2 h1
          rcases os_cases h2 with ⟨e0, h3, h4⟩ | ⟨q2, r2, h3, h4⟩
          · subst h4
            refine V_aload_0 (d_ru_readPart_0 (d+1)) ?_
            refine V_getR (d_ru_readPart_1 (d+1)) fl_ru_29 is_ru r_ru_tape ?_
            refine V_cvI0 (d_ru_readPart_4 (d+1)) ml_ru_77 mv_tp_skipBlanks (Nat.le_trans (by decide) hd10) (Nat.le_of_ble_eq_true rfl) is_tp (ok_skipBlanks hT) ?_
            rintro _ f2 ⟨rfl, e2⟩
            rw [e2]; clear e2 f2
            refine V_istore_2 (d_ru_readPart_7 (d+1)) rfl ?_
            refine V_iload_2 (d_ru_readPart_8 (d+1)) ?_
            refine V_csI1 (d_ru_readPart_9 (d+1)) ml_ru_92 ms_tp_isDigit (Nat.le_trans (by decide) hd10) (Nat.le_of_ble_eq_true rfl) (ok_tdigit (by omega)) ?_
            rintro x9 f2 ⟨hx9, e2⟩
            rw [e2]; clear e2 f2
            refine V_if_eq 49 (d_ru_readPart_12 (d+1)) (by decide) (by rcases hx9 with h | h <;> omega) (fun c12 => ?_) (fun c12 => ?_)
            · skip
              refine V_iload_2 (d_ru_readPart_49 (d+1)) ?_
              refine V_bipush 40 (d_ru_readPart_50 (d+1)) (by decide) ?_
              refine V_icmp_ne 103 (d_ru_readPart_52 (d+1)) (by decide) (by omega) (by omega) (fun c52 => by omega) (fun c52 => ?_)
              refine V_aload_0 (d_ru_readPart_55 (d+1)) ?_
              refine V_iload_1 (d_ru_readPart_56 (d+1)) ?_
              refine V_cvI1 (d_ru_readPart_57 (d+1)) ml_ru_70 mv_ru_mayOpen (Nat.le_trans (by decide) hd10) (Nat.le_of_ble_eq_true rfl) is_ru (ok_mayOpen (q_up_eq _ _ _ _) ho) ?_
              rintro x F2 hx
              obtain ⟨rfl, -, e2⟩ := hx.resolve_right (fun h => h.2.1 ho6)
              subst e2
              refine V_if_eq 101 (d_ru_readPart_60 (d+1)) (by decide) (by omega) (fun c60 => by omega) (fun c60 => ?_)
              refine V_aload_0 (d_ru_readPart_63 (d+1)) ?_
              refine V_getR (d_ru_readPart_64 (d+1)) fl_ru_29 is_ru r_ru_tape ?_
              refine V_bipush 40 (d_ru_readPart_67 (d+1)) (by decide) ?_
              refine V_cvI1 (d_ru_readPart_69 (d+1)) ml_ru_80 mv_tp_takeSign (Nat.le_trans (by decide) hd10) (Nat.le_of_ble_eq_true rfl) is_tp (ok_takeSign hpl (by decide)) ?_
              rintro x F3 hx
              obtain ⟨rfl, t3, a3, a4, k3⟩ := cO_inr hx hsg
              refine V_if_eq 101 (d_ru_readPart_72 (d+1)) (by decide) (by omega) (fun c72 => by omega) (fun c72 => ?_)
              refine V_aload_0 (d_ru_readPart_75 (d+1)) ?_
              refine V_iload_1 (d_ru_readPart_76 (d+1)) ?_
              refine V_iconst 1 (d_ru_readPart_77 (d+1)) ?_
              refine V_iadd (d_ru_readPart_78 (d+1)) ?_
              refine V_cvI1 (d_ru_readPart_79 (d+1)) (ml_ru_42 d) (mv_ru_readSum d) (Nat.le_refl _) (Nat.le_of_ble_eq_true rfl) is_ru (hS d F3 L (o + 1) _ _ _ (by omega) dS t3 (hpc.fr k3) (by omega) h1) ?_
              rintro x4 F4 ⟨rfl, t4, cd4, a5, a6, k4⟩
              refine V_if_eq 101 (d_ru_readPart_82 (d+1)) (by decide) (by omega) (fun c82 => by omega) (fun c82 => ?_)
              refine V_aload_0 (d_ru_readPart_85 (d+1)) ?_
              refine V_getR (d_ru_readPart_86 (d+1)) fl_ru_29 is_ru r_ru_tape ?_
              refine V_bipush 41 (d_ru_readPart_89 (d+1)) (by decide) ?_
              refine V_cvI1 (d_ru_readPart_91 (d+1)) ml_ru_80 mv_tp_takeSign (Nat.le_trans (by decide) hd10) (Nat.le_of_ble_eq_true rfl) is_tp (ok_takeSign t4 (by decide)) ?_
              rintro x5 F5 hx5
              obtain ⟨rfl, b1, b2, b3⟩ := cO_inl hx5 h3
              refine V_if_eq 101 (d_ru_readPart_94 (d+1)) (by decide) (by omega) (fun c94 => ?_) (fun c94 => by omega)
              refine V_iconst 0 (d_ru_readPart_101 (d+1)) ?_
              refine V_ireturn (d_ru_readPart_102 (d+1)) (hR _ _ (by decide) ?_)
              exact ⟨rfl, b1, b2, ((hf1.tr k3.r).tr k4).tr b3.r⟩
            · skip
              exact absurd (q_b1 hx9 c12) hg
          · cases h4
            refine V_aload_0 (d_ru_readPart_0 (d+1)) ?_
            refine V_getR (d_ru_readPart_1 (d+1)) fl_ru_29 is_ru r_ru_tape ?_
            refine V_cvI0 (d_ru_readPart_4 (d+1)) ml_ru_77 mv_tp_skipBlanks (Nat.le_trans (by decide) hd10) (Nat.le_of_ble_eq_true rfl) is_tp (ok_skipBlanks hT) ?_
            rintro _ f2 ⟨rfl, e2⟩
            rw [e2]; clear e2 f2
            refine V_istore_2 (d_ru_readPart_7 (d+1)) rfl ?_
            refine V_iload_2 (d_ru_readPart_8 (d+1)) ?_
            refine V_csI1 (d_ru_readPart_9 (d+1)) ml_ru_92 ms_tp_isDigit (Nat.le_trans (by decide) hd10) (Nat.le_of_ble_eq_true rfl) (ok_tdigit (by omega)) ?_
            rintro x9 f2 ⟨hx9, e2⟩
            rw [e2]; clear e2 f2
            refine V_if_eq 49 (d_ru_readPart_12 (d+1)) (by decide) (by rcases hx9 with h | h <;> omega) (fun c12 => ?_) (fun c12 => ?_)
            · skip
              refine V_iload_2 (d_ru_readPart_49 (d+1)) ?_
              refine V_bipush 40 (d_ru_readPart_50 (d+1)) (by decide) ?_
              refine V_icmp_ne 103 (d_ru_readPart_52 (d+1)) (by decide) (by omega) (by omega) (fun c52 => by omega) (fun c52 => ?_)
              refine V_aload_0 (d_ru_readPart_55 (d+1)) ?_
              refine V_iload_1 (d_ru_readPart_56 (d+1)) ?_
              refine V_cvI1 (d_ru_readPart_57 (d+1)) ml_ru_70 mv_ru_mayOpen (Nat.le_trans (by decide) hd10) (Nat.le_of_ble_eq_true rfl) is_ru (ok_mayOpen (q_up_eq _ _ _ _) ho) ?_
              rintro x F2 hx
              obtain ⟨rfl, -, e2⟩ := hx.resolve_right (fun h => h.2.1 ho6)
              subst e2
              refine V_if_eq 101 (d_ru_readPart_60 (d+1)) (by decide) (by omega) (fun c60 => by omega) (fun c60 => ?_)
              refine V_aload_0 (d_ru_readPart_63 (d+1)) ?_
              refine V_getR (d_ru_readPart_64 (d+1)) fl_ru_29 is_ru r_ru_tape ?_
              refine V_bipush 40 (d_ru_readPart_67 (d+1)) (by decide) ?_
              refine V_cvI1 (d_ru_readPart_69 (d+1)) ml_ru_80 mv_tp_takeSign (Nat.le_trans (by decide) hd10) (Nat.le_of_ble_eq_true rfl) is_tp (ok_takeSign hpl (by decide)) ?_
              rintro x F3 hx
              obtain ⟨rfl, t3, a3, a4, k3⟩ := cO_inr hx hsg
              refine V_if_eq 101 (d_ru_readPart_72 (d+1)) (by decide) (by omega) (fun c72 => by omega) (fun c72 => ?_)
              refine V_aload_0 (d_ru_readPart_75 (d+1)) ?_
              refine V_iload_1 (d_ru_readPart_76 (d+1)) ?_
              refine V_iconst 1 (d_ru_readPart_77 (d+1)) ?_
              refine V_iadd (d_ru_readPart_78 (d+1)) ?_
              refine V_cvI1 (d_ru_readPart_79 (d+1)) (ml_ru_42 d) (mv_ru_readSum d) (Nat.le_refl _) (Nat.le_of_ble_eq_true rfl) is_ru (hS d F3 L (o + 1) _ _ _ (by omega) dS t3 (hpc.fr k3) (by omega) h1) ?_
              rintro x4 F4 ⟨rfl, t4, cd4, a5, a6, k4⟩
              refine V_if_eq 101 (d_ru_readPart_82 (d+1)) (by decide) (by omega) (fun c82 => by omega) (fun c82 => ?_)
              refine V_aload_0 (d_ru_readPart_85 (d+1)) ?_
              refine V_getR (d_ru_readPart_86 (d+1)) fl_ru_29 is_ru r_ru_tape ?_
              refine V_bipush 41 (d_ru_readPart_89 (d+1)) (by decide) ?_
              refine V_cvI1 (d_ru_readPart_91 (d+1)) ml_ru_80 mv_tp_takeSign (Nat.le_trans (by decide) hd10) (Nat.le_of_ble_eq_true rfl) is_tp (ok_takeSign t4 (by decide)) ?_
              rintro x5 F5 hx5
              obtain ⟨rfl, t5, a7, a8, k5⟩ := cO_inr hx5 h3
              refine V_if_eq 101 (d_ru_readPart_94 (d+1)) (by decide) (by omega) (fun c94 => by omega) (fun c94 => ?_)
              refine V_iconst 1 (d_ru_readPart_97 (d+1)) ?_
              refine V_goto 102 (d_ru_readPart_98 (d+1)) (by decide) ?_
              refine V_ireturn (d_ru_readPart_102 (d+1)) (hR _ _ (by decide) ?_)
              exact ⟨rfl, t5, cd4.fr k5, by rw [a7, a5, a3, g3], by rw [a8, a6, a4, g4], ((hf1.tr k3.r).tr k4).tr k5.r⟩
            · skip
              exact absurd (q_b1 hx9 c12) hg
      · rw [if_neg ho6] at hr
        cases hr
        refine V_aload_0 (d_ru_readPart_0 (d+1)) ?_
        refine V_getR (d_ru_readPart_1 (d+1)) fl_ru_29 is_ru r_ru_tape ?_
        refine V_cvI0 (d_ru_readPart_4 (d+1)) ml_ru_77 mv_tp_skipBlanks (Nat.le_trans (by decide) hd10) (Nat.le_of_ble_eq_true rfl) is_tp (ok_skipBlanks hT) ?_
        rintro _ f2 ⟨rfl, e2⟩
        rw [e2]; clear e2 f2
        refine V_istore_2 (d_ru_readPart_7 (d+1)) rfl ?_
        refine V_iload_2 (d_ru_readPart_8 (d+1)) ?_
        refine V_csI1 (d_ru_readPart_9 (d+1)) ml_ru_92 ms_tp_isDigit (Nat.le_trans (by decide) hd10) (Nat.le_of_ble_eq_true rfl) (ok_tdigit (by omega)) ?_
        rintro x9 f2 ⟨hx9, e2⟩
        rw [e2]; clear e2 f2
        refine V_if_eq 49 (d_ru_readPart_12 (d+1)) (by decide) (by rcases hx9 with h | h <;> omega) (fun c12 => ?_) (fun c12 => ?_)
        · skip
          refine V_iload_2 (d_ru_readPart_49 (d+1)) ?_
          refine V_bipush 40 (d_ru_readPart_50 (d+1)) (by decide) ?_
          refine V_icmp_ne 103 (d_ru_readPart_52 (d+1)) (by decide) (by omega) (by omega) (fun c52 => by omega) (fun c52 => ?_)
          refine V_aload_0 (d_ru_readPart_55 (d+1)) ?_
          refine V_iload_1 (d_ru_readPart_56 (d+1)) ?_
          refine V_cvI1 (d_ru_readPart_57 (d+1)) ml_ru_70 mv_ru_mayOpen (Nat.le_trans (by decide) hd10) (Nat.le_of_ble_eq_true rfl) is_ru (ok_mayOpen (q_up_eq _ _ _ _) ho) ?_
          rintro x F2 hx
          obtain ⟨rfl, -, e2⟩ := hx.resolve_left (fun h => ho6 h.2.1)
          subst e2
          refine V_if_eq 101 (d_ru_readPart_60 (d+1)) (by decide) (by omega) (fun c60 => ?_) (fun c60 => by omega)
          refine V_iconst 0 (d_ru_readPart_101 (d+1)) ?_
          refine V_ireturn (d_ru_readPart_102 (d+1)) (hR _ _ (by decide) ?_)
          exact ⟨rfl, by rw [q_up_ne (Or.inr (by decide)), q_up_eq], q_up_eq _ _ _ _, (cK.refl f).up.up.up.r⟩
        · skip
          exact absurd (q_b1 hx9 c12) hg
    · rw [if_neg hl] at hr
      have hkk : ∀ x y, (q_up (q_up (q_up f 1 2 p) 1 2 p) 1 7 x) 1 y = (q_up (q_up f 1 2 p) 1 7 x) 1 y := fun x y => by rw [q_up_up]
      have K216 : ∀ w : Int, wd T N p e = w → isV w → ∀ u : Int, V D C (m_ru_readPart (d + 1)) 216 [vr D 4, vi o, vi u, vi w] [] (Zg g h) (q_up (q_up f 1 2 p) 1 7 (wE T N p e)) := by
        intro w hw hv u
        have hne : ¬ wd T N p e = -1 := by rw [hw]; unfold isV at hv; omega
        obtain ⟨w1, w2⟩ := hT.word hne
        have hge := wd_ge (T := T) hp.2.1 hne
        rw [w1]
        rw [hw, if_pos hv] at hr
        cases hr
        refine V_aload_0 (d_ru_readPart_216 (d+1)) ?_
        refine V_getR (d_ru_readPart_217 (d+1)) fl_ru_29 is_ru r_ru_tape ?_
        refine V_cvI0 (d_ru_readPart_220 (d+1)) ml_ru_73 mv_tp_takeWordHere (Nat.le_trans (by decide) hd10) (Nat.le_of_ble_eq_true rfl) is_tp (ok_takeWordHere (q_up_eq _ _ _ _)) ?_
        rintro x F3 ⟨rfl, e3⟩
        refine V_if_eq 242 (d_ru_readPart_223 (d+1)) (by decide) (by omega) (fun c223 => by omega) (fun c223 => ?_)
        refine V_aload_0 (d_ru_readPart_226 (d+1)) ?_
        refine V_sipush (-200) (d_ru_readPart_227 (d+1)) (by decide) ?_
        refine V_iload_3 (d_ru_readPart_230 (d+1)) ?_
        refine V_isub (d_ru_readPart_231 (d+1)) ?_
        refine V_cvI1 (d_ru_readPart_232 (d+1)) ml_ru_60 mv_ru_emit (Nat.le_trans (by decide) hd10) (Nat.le_of_ble_eq_true rfl) is_ru (ok_emit (c := wcd w) (f := F3) (L := L) (by rw [e3]; exact hc.fr (cK.refl f).up.up.up.up) (by omega) (ccd_w hv)) ?_
        rintro x5 F5 ⟨rfl, cd5, k5⟩
        refine V_if_eq 242 (d_ru_readPart_235 (d+1)) (by decide) (by omega) (fun c235 => by omega) (fun c235 => ?_)
        refine V_iconst 1 (d_ru_readPart_238 (d+1)) ?_
        refine V_goto 243 (d_ru_readPart_239 (d+1)) (by decide) ?_
        refine V_ireturn (d_ru_readPart_243 (d+1)) (hR _ _ (by decide) ?_)
        have k3 : cK f F3 := by rw [e3]; exact (cK.refl f).up.up.up.up
        refine ⟨rfl, ?_, cd5, ?_, ?_, k3.r.tr (fun j k a b c => k5 j k b c)⟩
        · refine (tpS.fr ?_ (fun j k hj => k5 j k (by omega) (by omega)))
          rw [e3]; exact w2
        · rw [k5 _ _ (by decide) (by decide), e3, q_up_ne (Or.inr (by decide)), q_up_ne (Or.inr (by decide)), q_up_ne (Or.inr (by decide)), q_up_ne (Or.inr (by decide))]
        · rw [k5 _ _ (by decide) (by decide), e3, q_up_ne (Or.inr (by decide)), q_up_ne (Or.inr (by decide)), q_up_ne (Or.inr (by decide)), q_up_ne (Or.inr (by decide))]
      have K259f : ∀ (F4 : q_F) (u w : Int), cR f F4 T N 0 L r → V D C (m_ru_readPart (d + 1)) 259 [vr D 4, vi o, vi u, vi w] [vi 0] (Zg g h) F4 := by
        intro F4 u w hcr
        refine V_if_eq 278 (d_ru_readPart_259 (d+1)) (by decide) (by omega) (fun c259 => ?_) (fun c259 => by omega)
        refine V_iconst 0 (d_ru_readPart_278 (d+1)) ?_
        refine V_ireturn (d_ru_readPart_279 (d+1)) (hR _ _ (by decide) ?_)
        exact hcr
      have K259t : ∀ (F4 : q_F) (u w z : Int) (s : List Int × Int × Int) (c : List Int), r = .inr s → s.1 = c ++ [z] → ccd z = -200 - w → tpS F4 T N s.2.1 s.2.2 → cdS F4 (L ++ c) → ((L ++ c).length : Int) < s.2.1 → F4 1 3 = f 1 3 → F4 1 4 = f 1 4 → rK f F4 → V D C (m_ru_readPart (d + 1)) 259 [vr D 4, vi o, vi u, vi w] [vi 1] (Zg g h) F4 := by
        intro F4 u w z s c hrs hcs hcc t4 cd4 hlen a3 a4 k4
        have hp4 := t4.pr
        refine V_if_eq 278 (d_ru_readPart_259 (d+1)) (by decide) (by omega) (fun c259 => by omega) (fun c259 => ?_)
        refine V_aload_0 (d_ru_readPart_262 (d+1)) ?_
        refine V_sipush (-200) (d_ru_readPart_263 (d+1)) (by decide) ?_
        refine V_iload_3 (d_ru_readPart_266 (d+1)) ?_
        refine V_isub (d_ru_readPart_267 (d+1)) ?_
        refine V_cvI1 (d_ru_readPart_268 (d+1)) ml_ru_60 mv_ru_emit (Nat.le_trans (by decide) hd10) (Nat.le_of_ble_eq_true rfl) is_ru (ok_emit (c := z) cd4 (by omega) hcc) ?_
        rintro x5 F5 ⟨rfl, cd5, k5⟩
        refine V_if_eq 278 (d_ru_readPart_271 (d+1)) (by decide) (by omega) (fun c271 => by omega) (fun c271 => ?_)
        refine V_iconst 1 (d_ru_readPart_274 (d+1)) ?_
        refine V_goto 279 (d_ru_readPart_275 (d+1)) (by decide) ?_
        refine V_ireturn (d_ru_readPart_279 (d+1)) (hR _ _ (by decide) ?_)
        rw [hrs]
        refine ⟨rfl, t4.fr (fun j k hj => k5 j k (by omega) (by omega)), ?_, by rw [k5 _ _ (by decide) (by decide), a3], by rw [k5 _ _ (by decide) (by decide), a4], k4.tr (fun j k a b c => k5 j k b c)⟩
        rw [hcs, ← List.append_assoc]; exact cd5
      have K244 : ∀ w : Int, wd T N p e = w → (w = 23 ∨ w = 24) → ∀ u : Int, V D C (m_ru_readPart (d + 1)) 244 [vr D 4, vi o, vi u, vi w] [] (Zg g h) (q_up (q_up f 1 2 p) 1 7 (wE T N p e)) := by
        intro w hw hv u
        have hne : ¬ wd T N p e = -1 := by rw [hw]; omega
        obtain ⟨w1, w2⟩ := hT.word hne
        have hge := wd_ge (T := T) hp.2.1 hne
        rw [w1]
        rw [hw, if_neg (by omega), if_pos hv] at hr
        have hr2 : rdTwo T N n o (sk T N (le T N p)) (le T N p) (if w = 23 then 5 else 6) = some r := hr
        have hcc : ccd (if w = 23 then 5 else 6) = -200 - w := by rcases hv with h | h <;> subst h <;> decide
        refine V_aload_0 (d_ru_readPart_244 (d+1)) ?_
        refine V_getR (d_ru_readPart_245 (d+1)) fl_ru_29 is_ru r_ru_tape ?_
        refine V_cvI0 (d_ru_readPart_248 (d+1)) ml_ru_73 mv_tp_takeWordHere (Nat.le_trans (by decide) hd10) (Nat.le_of_ble_eq_true rfl) is_tp (ok_takeWordHere (q_up_eq _ _ _ _)) ?_
        rintro x F3 ⟨rfl, e3⟩
        have k3 : cK f F3 := by rw [e3]; exact (cK.refl f).up.up.up.up
        have a3 : F3 1 3 = f 1 3 := by rw [e3, q_up_ne (Or.inr (by decide)), q_up_ne (Or.inr (by decide)), q_up_ne (Or.inr (by decide)), q_up_ne (Or.inr (by decide))]
        have a4 : F3 1 4 = f 1 4 := by rw [e3, q_up_ne (Or.inr (by decide)), q_up_ne (Or.inr (by decide)), q_up_ne (Or.inr (by decide)), q_up_ne (Or.inr (by decide))]
        rw [← e3] at w2
        clear e3
        refine V_if_eq 278 (d_ru_readPart_251 (d+1)) (by decide) (by omega) (fun c251 => by omega) (fun c251 => ?_)
        refine V_aload_0 (d_ru_readPart_254 (d+1)) ?_
        refine V_iload_1 (d_ru_readPart_255 (d+1)) ?_
        refine V_cvI1 (d_ru_readPart_256 (d+1)) (ml_ru_102 d) (mv_ru_readOfTwo d) (Nat.le_refl _) (Nat.le_of_ble_eq_true rfl) is_ru (ok_readOfTwo hS ho (by omega) w2 (hc.fr k3) (by omega) hr2) ?_
        rintro x4 F4 h4
        cases r with
        | inl e0 =>
          obtain ⟨rfl, b1, b2, b3⟩ := h4
          exact K259f F4 u w ⟨rfl, b1, b2, k3.r.tr b3⟩
        | inr s =>
          obtain ⟨rfl, t4, ⟨c, hcs, cd4, hlen⟩, a5, a6, k4⟩ := h4
          exact K259t F4 u w _ s c rfl hcs hcc t4 cd4 hlen (by rw [a5, a3]) (by rw [a6, a4]) (k3.r.tr k4)
      have K280 : ∀ w : Int, wd T N p e = w → ¬ isV w ∧ ¬ (w = 23 ∨ w = 24) → ∀ u : Int, V D C (m_ru_readPart (d + 1)) 280 [vr D 4, vi o, vi u, vi w] [] (Zg g h) (q_up (q_up f 1 2 p) 1 7 (wE T N p e)) := by
        intro w hw hv u
        rw [hw, if_neg hv.1, if_neg hv.2] at hr
        cases hr
        refine V_aload_0 (d_ru_readPart_280 (d+1)) ?_
        refine V_getR (d_ru_readPart_281 (d+1)) fl_ru_29 is_ru r_ru_tape ?_
        refine V_cvI0 (d_ru_readPart_284 (d+1)) ml_ru_83 mv_tp_failHere (Nat.le_trans (by decide) hd10) (Nat.le_of_ble_eq_true rfl) is_tp (ok_failHere (w := p) (by rw [q_up_ne (Or.inr (by decide)), q_up_eq])) ?_
        rintro x f9 ⟨hx, e9⟩
        rw [hx, e9]; clear hx e9 f9
        refine V_ireturn (d_ru_readPart_287 (d+1)) (hR _ _ (by decide) ?_)
        exact ⟨rfl, by rw [q_up_ne (Or.inr (by decide)), q_up_eq], q_up_eq _ _ _ _, (cK.refl f).up.up.up.up.r⟩
      refine V_aload_0 (d_ru_readPart_0 (d+1)) ?_
      refine V_getR (d_ru_readPart_1 (d+1)) fl_ru_29 is_ru r_ru_tape ?_
      refine V_cvI0 (d_ru_readPart_4 (d+1)) ml_ru_77 mv_tp_skipBlanks (Nat.le_trans (by decide) hd10) (Nat.le_of_ble_eq_true rfl) is_tp (ok_skipBlanks hT) ?_
      rintro _ f2 ⟨rfl, e2⟩
      rw [e2]; clear e2 f2
      refine V_istore_2 (d_ru_readPart_7 (d+1)) rfl ?_
      refine V_iload_2 (d_ru_readPart_8 (d+1)) ?_
      refine V_csI1 (d_ru_readPart_9 (d+1)) ml_ru_92 ms_tp_isDigit (Nat.le_trans (by decide) hd10) (Nat.le_of_ble_eq_true rfl) (ok_tdigit (by omega)) ?_
      rintro x9 f2 ⟨hx9, e2⟩
      rw [e2]; clear e2 f2
      refine V_if_eq 49 (d_ru_readPart_12 (d+1)) (by decide) (by rcases hx9 with h | h <;> omega) (fun c12 => ?_) (fun c12 => ?_)
      · skip
        refine V_iload_2 (d_ru_readPart_49 (d+1)) ?_
        refine V_bipush 40 (d_ru_readPart_50 (d+1)) (by decide) ?_
        refine V_icmp_ne 103 (d_ru_readPart_52 (d+1)) (by decide) (by omega) (by omega) (fun c52 => ?_) (fun c52 => by omega)
        refine V_aload_0 (d_ru_readPart_103 (d+1)) ?_
        refine V_getR (d_ru_readPart_104 (d+1)) fl_ru_29 is_ru r_ru_tape ?_
        refine V_cvI0 (d_ru_readPart_107 (d+1)) ml_ru_66 mv_tp_wordHere (Nat.le_trans (by decide) hd10) (Nat.le_of_ble_eq_true rfl) is_tp (ok_wordHere hpl) ?_
        rintro _ f2 ⟨rfl, e2⟩
        rw [e2]; clear e2 f2
        rw [q_up_up]
        refine V_istore_3 (d_ru_readPart_110 (d+1)) rfl ?_
        generalize hw : wd T N p e = w
        refine V_iload_3 (d_ru_readPart_111 (d+1)) ?_
        refine V_tsw 280 (d_ru_readPart_112 (d+1)) (by decide) (by omega) (fun c112 => ?_) (fun c112 => ?_)
        · skip
          exact K280 _ hw (by unfold isV; omega) _
        · rcases (show w = 3 ∨ w = 4 ∨ w = 5 ∨ w = 6 ∨ w = 7 ∨ w = 8 ∨ w = 9 ∨ w = 10 ∨ w = 11 ∨ w = 12 ∨ w = 13 ∨ w = 14 ∨ w = 15 ∨ w = 16 ∨ w = 17 ∨ w = 18 ∨ w = 19 ∨ w = 20 ∨ w = 21 ∨ w = 22 ∨ w = 23 ∨ w = 24 by omega) with rfl | rfl | rfl | rfl | rfl | rfl | rfl | rfl | rfl | rfl | rfl | rfl | rfl | rfl | rfl | rfl | rfl | rfl | rfl | rfl | rfl | rfl
          · refine V_tsi 216 (d_ru_readPart_112 (d+1)) (by decide) (by decide) rfl (by decide) ?_
            exact K216 _ hw (by decide) _
          · refine V_tsi 280 (d_ru_readPart_112 (d+1)) (by decide) (by decide) rfl (by decide) ?_
            exact K280 _ hw (by unfold isV; omega) _
          · refine V_tsi 280 (d_ru_readPart_112 (d+1)) (by decide) (by decide) rfl (by decide) ?_
            exact K280 _ hw (by unfold isV; omega) _
          · refine V_tsi 280 (d_ru_readPart_112 (d+1)) (by decide) (by decide) rfl (by decide) ?_
            exact K280 _ hw (by unfold isV; omega) _
          · refine V_tsi 280 (d_ru_readPart_112 (d+1)) (by decide) (by decide) rfl (by decide) ?_
            exact K280 _ hw (by unfold isV; omega) _
          · refine V_tsi 280 (d_ru_readPart_112 (d+1)) (by decide) (by decide) rfl (by decide) ?_
            exact K280 _ hw (by unfold isV; omega) _
          · refine V_tsi 216 (d_ru_readPart_112 (d+1)) (by decide) (by decide) rfl (by decide) ?_
            exact K216 _ hw (by decide) _
          · refine V_tsi 216 (d_ru_readPart_112 (d+1)) (by decide) (by decide) rfl (by decide) ?_
            exact K216 _ hw (by decide) _
          · refine V_tsi 280 (d_ru_readPart_112 (d+1)) (by decide) (by decide) rfl (by decide) ?_
            exact K280 _ hw (by unfold isV; omega) _
          · refine V_tsi 280 (d_ru_readPart_112 (d+1)) (by decide) (by decide) rfl (by decide) ?_
            exact K280 _ hw (by unfold isV; omega) _
          · refine V_tsi 280 (d_ru_readPart_112 (d+1)) (by decide) (by decide) rfl (by decide) ?_
            exact K280 _ hw (by unfold isV; omega) _
          · refine V_tsi 280 (d_ru_readPart_112 (d+1)) (by decide) (by decide) rfl (by decide) ?_
            exact K280 _ hw (by unfold isV; omega) _
          · refine V_tsi 280 (d_ru_readPart_112 (d+1)) (by decide) (by decide) rfl (by decide) ?_
            exact K280 _ hw (by unfold isV; omega) _
          · refine V_tsi 280 (d_ru_readPart_112 (d+1)) (by decide) (by decide) rfl (by decide) ?_
            exact K280 _ hw (by unfold isV; omega) _
          · refine V_tsi 280 (d_ru_readPart_112 (d+1)) (by decide) (by decide) rfl (by decide) ?_
            exact K280 _ hw (by unfold isV; omega) _
          · refine V_tsi 280 (d_ru_readPart_112 (d+1)) (by decide) (by decide) rfl (by decide) ?_
            exact K280 _ hw (by unfold isV; omega) _
          · refine V_tsi 280 (d_ru_readPart_112 (d+1)) (by decide) (by decide) rfl (by decide) ?_
            exact K280 _ hw (by unfold isV; omega) _
          · refine V_tsi 216 (d_ru_readPart_112 (d+1)) (by decide) (by decide) rfl (by decide) ?_
            exact K216 _ hw (by decide) _
          · refine V_tsi 216 (d_ru_readPart_112 (d+1)) (by decide) (by decide) rfl (by decide) ?_
            exact K216 _ hw (by decide) _
          · refine V_tsi 216 (d_ru_readPart_112 (d+1)) (by decide) (by decide) rfl (by decide) ?_
            exact K216 _ hw (by decide) _
          · refine V_tsi 244 (d_ru_readPart_112 (d+1)) (by decide) (by decide) rfl (by decide) ?_
            exact K244 _ hw (by decide) _
          · refine V_tsi 244 (d_ru_readPart_112 (d+1)) (by decide) (by decide) rfl (by decide) ?_
            exact K244 _ hw (by decide) _
      · skip
        exact absurd (q_b1 hx9 c12) hg
end RU2
