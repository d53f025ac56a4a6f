/-! the constructors (written by wip/gen/gen_init.py) -/
/-! hires cleared, over any shape -/
def fI_cl (f : q_F) : q_F := fun j k => if j = 11 ∧ 0 ≤ k ∧ k < 24 then -1 else q_up f 10 3 0 j k
theorem fr_cl {rf : Int → Int → Int} {f : q_F} (hF : fresh 43 rf f) : fresh 43 rf (fI_cl f) := fun j k hj => ⟨by unfold fI_cl; rw [if_neg (fun e => by omega), q_up_ne (Or.inl (by omega))]; exact (hF j k hj).1, (hF j k hj).2⟩
section CLR
variable {D : q_D} {C : q_C} {M : q_M} {pc idx cs ss : Nat} {L rest : List Value} {rf : Int → Int → Int} {f : q_F}
theorem ok_clr (hr : rf 10 0 = 11) : OkV D m_hi_clear [vr D 10] (43, rf, 0, 0) f (fun f' => f' = fI_cl f) := by
  refine OkV_of (L0 := [vr D 10, vu]) mi_hi_clear rfl rfl (Nat.le_of_ble_eq_true rfl) (fun C hR => ?_)
  have loop : ∀ (m : Nat) (i : Int) (F : q_F), i + m = 24 → 0 ≤ i → (∀ j k, F j k = if j = 11 ∧ 0 ≤ k ∧ k < i then -1 else q_up f 10 3 0 j k) → V D C m_hi_clear 7 [vr D 10, vi i] [] (43, rf, 0, 0) F := by
    intro m
    induction m with
    | zero =>
      intro i F hm h0 h1
      refine V_iload_1 d_hi_clear_7 ?_
      refine V_bipush 24 d_hi_clear_8 (by decide) ?_
      refine V_icmp_ge 26 d_hi_clear_10 (by decide) (by omega) (by omega) (fun c10 => ?_) (fun c10 => by omega)
      refine V_return d_hi_clear_26 (hR _ ?_)
      funext j k; rw [h1 j k, show i = 24 by omega]; rfl
    | succ m ih =>
      intro i F hm h0 h1
      refine V_iload_1 d_hi_clear_7 ?_
      refine V_bipush 24 d_hi_clear_8 (by decide) ?_
      refine V_icmp_ge 26 d_hi_clear_10 (by decide) (by omega) (by omega) (fun c10 => by omega) (fun c10 => ?_)
      refine V_aload_0 d_hi_clear_13 ?_
      refine V_getR d_hi_clear_14 fl_hi_9 (show q_ce 43 10 4 4 from ⟨by decide, by decide, by decide +kernel⟩) ⟨hr, by decide⟩ ?_
      refine V_iload_1 d_hi_clear_17 ?_
      refine V_iconst (-1) d_hi_clear_18 ?_
      refine V_iast d_hi_clear_19 (show q_ce 43 11 20 24 from ⟨by decide, by decide, by decide +kernel⟩) (by omega) (by omega) ?_
      refine V_iinc_1 d_hi_clear_20 rfl ?_
      refine V_goto 7 d_hi_clear_23 (by decide) ?_
      refine ih _ _ (by omega) (by omega) (fun j k => ?_)
      by_cases e : j = 11 ∧ k = i
      · obtain ⟨rfl, rfl⟩ := e
        rw [q_up_eq, if_pos ⟨rfl, h0, by omega⟩]
      · rw [q_up_ne (by omega), h1 j k]
        by_cases e2 : j = 11 ∧ 0 ≤ k ∧ k < i
        · rw [if_pos e2, if_pos (by omega)]
        · rw [if_neg e2, if_neg (by omega)]
  refine V_aload_0 d_hi_clear_0 ?_
  refine V_iconst 0 d_hi_clear_1 ?_
  refine V_putI d_hi_clear_2 fl_hi_23 (show q_ce 43 10 4 4 from ⟨by decide, by decide, by decide +kernel⟩) ?_
  refine V_iconst 0 d_hi_clear_5 ?_
  refine V_istore_1 d_hi_clear_6 rfl ?_
  exact loop 24 _ _ (by decide) (by decide) (fun j k => by rw [if_neg (by omega)])
theorem I_cl (hd : decode (q_cc M) pc = .ok (.invokevirtual idx, 3)) (hl : Cond.methodLink (q_y M).cls idx (q_y m_hi_clear) ∈ q_T) (hr : rf 10 0 = 11) (hdp : q_dp m_hi_clear + 1 ≤ q_dp M) (hroom : cs ≤ q_mc M ∧ ss ≤ q_ms M) (k : V D C M (pc + 3) L [] (43, rf, cs, ss) (fI_cl f)) : V D C M pc L [vr D 10] (43, rf, cs, ss) f := by
  have hm := mv_hi_clear
  have e := hm.2.2.1
  refine V_callV (M' := m_hi_clear) (As := []) (rest := []) (ci := 4) hd hl hm.1 hm.2.1 hm.2.2.2 hdp rfl (Nat.le_of_ble_eq_true rfl) (by decide) (show (10 : Int).toNat < 43 by decide) (by decide +kernel) (by rw [e.1, e.2]; exact hroom) (ok_clr hr) (fun v z' f' h => ?_)
  obtain ⟨rfl, rfl, rfl⟩ := h
  rw [e.1, e.2, q_ovu]
  exact k
end CLR

def rI_tp (rf : Int → Int → Int) : Int → Int → Int := (q_up rf 1 0 2)
def fI_tp (f : q_F) : q_F := (q_up f 1 4 (-1))
theorem fr_tp {rf : Int → Int → Int} {f : q_F} (hF : fresh 2 rf f) : fresh 3 (rI_tp rf) (fI_tp f) := by
  have hF0 := hF.mono 3 (by decide)
  have hF1 := hF0.upR 1 0 2 (by decide)
  have hF2 := hF1.upI 1 4 (-1) (by decide)
  exact hF2
theorem ok_tp_init {D : q_D} {rf : Int → Int → Int} {f : q_F} (hF : fresh 2 rf f) : Ok D m_tp_init [vr D 1] (2, rf, 0, 0) f (fun v z' f2 => v = vu ∧ z'.1 = 3 ∧ z'.2.1 = rI_tp rf ∧ f2 = fI_tp f) := by
  refine I_ok (L0 := [vr D 1]) mi_tp_init rfl rfl (Nat.le_of_ble_eq_true rfl) (fun C hR => ?_)
  refine V_aload_0 d_tp_init_0 ?_
  refine V_obj d_tp_init_1 (q_in 30 (by decide +kernel) rfl) (q_in 23 (by decide +kernel) rfl) (q_in 24 (by decide +kernel) rfl) (by decide) ?_
  refine V_aload_0 d_tp_init_4 ?_
  refine V_sipush 1600 d_tp_init_5 (by decide) ?_
  refine I_ai (r := 2) 3 1 1600 d_tp_init_8 (by decide +kernel) rfl ⟨rfl, rfl, rfl, by decide, by decide⟩ hF (by decide) ?_
  have hF0 := hF.mono 3 (by decide)
  refine V_putF (n := 9) d_tp_init_10 fl_tp_9 ⟨by decide, by decide, by decide +kernel⟩ rfl rfl rfl rfl (fun c hc => by cases hc; rfl) (by decide) ?_
  have hF1 := hF0.upR 1 0 2 (by decide)
  refine V_aload_0 d_tp_init_13 ?_
  refine V_iconst (-1) d_tp_init_14 ?_
  refine V_putI (n := 9) d_tp_init_15 fl_tp_15 ⟨by decide, by decide, by decide +kernel⟩ ?_
  have hF2 := hF1.upI 1 4 (-1) (by decide)
  exact V_return d_tp_init_18 (hR 1 1600 (by decide) (by decide))
def rI_ru (rf : Int → Int → Int) : Int → Int → Int := (q_up (q_up (q_up (q_up (q_up (q_up rf 4 1 5) 4 3 6) 4 4 7) 4 5 8) 4 6 9) 4 0 1)
def fI_ru (f : q_F) : q_F := f
theorem fr_ru {rf : Int → Int → Int} {f : q_F} (hF : fresh 5 rf f) : fresh 10 (rI_ru rf) (fI_ru f) := by
  have hF0 := hF.mono 6 (by decide)
  have hF1 := hF0.upR 4 1 5 (by decide)
  have hF2 := hF1.mono 7 (by decide)
  have hF3 := hF2.upR 4 3 6 (by decide)
  have hF4 := hF3.mono 8 (by decide)
  have hF5 := hF4.upR 4 4 7 (by decide)
  have hF6 := hF5.mono 9 (by decide)
  have hF7 := hF6.upR 4 5 8 (by decide)
  have hF8 := hF7.mono 10 (by decide)
  have hF9 := hF8.upR 4 6 9 (by decide)
  have hF10 := hF9.upR 4 0 1 (by decide)
  exact hF10
theorem ok_ru_init {D : q_D} {rf : Int → Int → Int} {f : q_F} (hF : fresh 5 rf f) : Ok D m_ru_init [vr D 4, vr D 1] (5, rf, 0, 0) f (fun v z' f2 => v = vu ∧ z'.1 = 10 ∧ z'.2.1 = rI_ru rf ∧ f2 = fI_ru f) := by
  refine I_ok (L0 := [vr D 4, vr D 1]) mi_ru_init rfl rfl (Nat.le_of_ble_eq_true rfl) (fun C hR => ?_)
  refine V_aload_0 d_ru_init_0 ?_
  refine V_obj d_ru_init_1 (q_in 80 (by decide +kernel) rfl) (q_in 23 (by decide +kernel) rfl) (q_in 24 (by decide +kernel) rfl) (by decide) ?_
  refine V_aload_0 d_ru_init_4 ?_
  refine V_sipush 1600 d_ru_init_5 (by decide) ?_
  refine I_ai (r := 5) 6 1 1600 d_ru_init_8 (by decide +kernel) rfl ⟨rfl, rfl, rfl, by decide, by decide⟩ hF (by decide) ?_
  have hF0 := hF.mono 6 (by decide)
  refine V_putF (n := 8) d_ru_init_10 fl_ru_9 ⟨by decide, by decide, by decide +kernel⟩ rfl rfl rfl rfl (fun c hc => by cases hc; rfl) (by decide) ?_
  have hF1 := hF0.upR 4 1 5 (by decide)
  refine V_aload_0 d_ru_init_13 ?_
  refine V_bipush 7 d_ru_init_14 (by decide) ?_
  refine I_ai (r := 6) 7 2 1607 d_ru_init_16 (by decide +kernel) rfl ⟨rfl, rfl, rfl, by decide, by decide⟩ hF1 (by decide) ?_
  have hF2 := hF1.mono 7 (by decide)
  refine V_putF (n := 8) d_ru_init_18 fl_ru_15 ⟨by decide, by decide, by decide +kernel⟩ rfl rfl rfl rfl (fun c hc => by cases hc; rfl) (by decide) ?_
  have hF3 := hF2.upR 4 3 6 (by decide)
  refine V_aload_0 d_ru_init_21 ?_
  refine V_bipush 6 d_ru_init_22 (by decide) ?_
  refine I_ai (r := 7) 8 3 1613 d_ru_init_24 (by decide +kernel) rfl ⟨rfl, rfl, rfl, by decide, by decide⟩ hF3 (by decide) ?_
  have hF4 := hF3.mono 8 (by decide)
  refine V_putF (n := 8) d_ru_init_26 fl_ru_18 ⟨by decide, by decide, by decide +kernel⟩ rfl rfl rfl rfl (fun c hc => by cases hc; rfl) (by decide) ?_
  have hF5 := hF4.upR 4 4 7 (by decide)
  refine V_aload_0 d_ru_init_29 ?_
  refine V_bipush 25 d_ru_init_30 (by decide) ?_
  refine I_ai (r := 8) 9 4 1638 d_ru_init_32 (by decide +kernel) rfl ⟨rfl, rfl, rfl, by decide, by decide⟩ hF5 (by decide) ?_
  have hF6 := hF5.mono 9 (by decide)
  refine V_putF (n := 8) d_ru_init_34 fl_ru_23 ⟨by decide, by decide, by decide +kernel⟩ rfl rfl rfl rfl (fun c hc => by cases hc; rfl) (by decide) ?_
  have hF7 := hF6.upR 4 5 8 (by decide)
  refine V_aload_0 d_ru_init_37 ?_
  refine V_bipush 64 d_ru_init_38 (by decide) ?_
  refine I_ai (r := 9) 10 5 1702 d_ru_init_40 (by decide +kernel) rfl ⟨rfl, rfl, rfl, by decide, by decide⟩ hF7 (by decide) ?_
  have hF8 := hF7.mono 10 (by decide)
  refine V_putF (n := 8) d_ru_init_42 fl_ru_26 ⟨by decide, by decide, by decide +kernel⟩ rfl rfl rfl rfl (fun c hc => by cases hc; rfl) (by decide) ?_
  have hF9 := hF8.upR 4 6 9 (by decide)
  refine V_aload_0 d_ru_init_45 ?_
  refine V_aload_1 d_ru_init_46 ?_
  refine V_putF (n := 8) d_ru_init_47 fl_ru_29 ⟨by decide, by decide, by decide +kernel⟩ rfl rfl rfl rfl (fun c hc => by cases hc; rfl) (by decide) ?_
  have hF10 := hF9.upR 4 0 1 (by decide)
  exact V_return d_ru_init_50 (hR 5 1702 (by decide) (by decide))
def rI_gr (rf : Int → Int → Int) : Int → Int → Int := (q_up (rI_ru (q_up rf 3 0 1)) 3 1 4)
def fI_gr (f : q_F) : q_F := (fI_ru f)
theorem fr_gr {rf : Int → Int → Int} {f : q_F} (hF : fresh 4 rf f) : fresh 10 (rI_gr rf) (fI_gr f) := by
  have hF0 := hF.upR 3 0 1 (by decide)
  have hF1 := hF0.mono 5 (by decide)
  have hF2 := fr_ru hF1
  have hF3 := hF2.upR 3 1 4 (by decide)
  exact hF3
theorem ok_gr_init {D : q_D} {rf : Int → Int → Int} {f : q_F} (hF : fresh 4 rf f) : Ok D m_gr_init [vr D 3, vr D 1] (4, rf, 0, 0) f (fun v z' f2 => v = vu ∧ z'.1 = 10 ∧ z'.2.1 = rI_gr rf ∧ f2 = fI_gr f) := by
  refine I_ok (L0 := [vr D 3, vr D 1]) mi_gr_init rfl rfl (Nat.le_of_ble_eq_true rfl) (fun C hR => ?_)
  refine V_aload_0 d_gr_init_0 ?_
  refine V_obj d_gr_init_1 (q_in 74 (by decide +kernel) rfl) (q_in 23 (by decide +kernel) rfl) (q_in 24 (by decide +kernel) rfl) (by decide) ?_
  refine V_aload_0 d_gr_init_4 ?_
  refine V_aload_1 d_gr_init_5 ?_
  refine V_putF (n := 3) d_gr_init_6 fl_gr_9 ⟨by decide, by decide, by decide +kernel⟩ rfl rfl rfl rfl (fun c hc => by cases hc; rfl) (by decide) ?_
  have hF0 := hF.upR 3 0 1 (by decide)
  refine V_aload_0 d_gr_init_9 ?_
  refine I_new (ci := 5) (X := R_ru) (Tb := F_ru) (n := 8) (r := 4) t_ru 5 1 8 d_gr_init_10 (q_in 75 (by decide +kernel) rfl) (q_in 76 (by decide +kernel) rfl) (q_in 4 (by decide +kernel) rfl) (by decide +kernel) rfl t_ru_ok (by decide +kernel) rfl ⟨rfl, rfl, rfl⟩ hF0 (by decide) ?_
  have hF1 := hF0.mono 5 (by decide)
  refine V_dup d_gr_init_13 rfl ?_
  refine V_aload_1 d_gr_init_14 ?_
  refine I_cI (M' := m_ru_init) (q := 4) (As := [vr D 1]) (rf' := rI_ru (q_up rf 3 0 1)) (f' := fI_ru f) 10 6 1710 d_gr_init_15 ml_gr_17 mi_ru_init mv_ru_init ⟨rfl, rfl⟩ (by decide) rfl (Nat.le_of_ble_eq_true rfl) ⟨rfl, rfl, by decide, by decide⟩ (ok_ru_init hF1) ?_
  have hF2 := fr_ru hF1
  refine V_putF (n := 3) d_gr_init_18 fl_gr_20 ⟨by decide, by decide, by decide +kernel⟩ rfl rfl rfl rfl (fun c hc => by cases hc; rfl) (by decide) ?_
  have hF3 := hF2.upR 3 1 4 (by decide)
  exact V_return d_gr_init_21 (hR 6 1710 (by decide) (by decide))
def rI_hi (rf : Int → Int → Int) : Int → Int → Int := (q_up (rfg (q_up rf 10 0 11) 12 30) 10 1 12)
def fI_hi (f : q_F) : q_F := (fI_cl f)
theorem fr_hi {rf : Int → Int → Int} {f : q_F} (hF : fresh 11 rf f) : fresh 43 (rI_hi rf) (fI_hi f) := by
  have hF0 := hF.mono 12 (by decide)
  have hF1 := hF0.upR 10 0 11 (by decide)
  have hF2 := hF1.grid 43 30 (by decide)
  have hF3 := hF2.upR 10 1 12 (by decide)
  have hF4 := fr_cl hF3
  exact hF4
theorem ok_hi_init {D : q_D} {rf : Int → Int → Int} {f : q_F} (hF : fresh 11 rf f) : Ok D m_hi_init [vr D 10] (11, rf, 0, 0) f (fun v z' f2 => v = vu ∧ z'.1 = 43 ∧ z'.2.1 = rI_hi rf ∧ f2 = fI_hi f) := by
  refine I_ok (L0 := [vr D 10]) mi_hi_init rfl rfl (Nat.le_of_ble_eq_true rfl) (fun C hR => ?_)
  refine V_aload_0 d_hi_init_0 ?_
  refine V_obj d_hi_init_1 (q_in 121 (by decide +kernel) rfl) (q_in 23 (by decide +kernel) rfl) (q_in 24 (by decide +kernel) rfl) (by decide) ?_
  refine V_aload_0 d_hi_init_4 ?_
  refine V_bipush 24 d_hi_init_5 (by decide) ?_
  refine I_ai (r := 11) 12 1 24 d_hi_init_7 (by decide +kernel) rfl ⟨rfl, rfl, rfl, by decide, by decide⟩ hF (by decide) ?_
  have hF0 := hF.mono 12 (by decide)
  refine V_putF (n := 4) d_hi_init_9 fl_hi_9 ⟨by decide, by decide, by decide +kernel⟩ rfl rfl rfl rfl (fun c hc => by cases hc; rfl) (by decide) ?_
  have hF1 := hF0.upR 10 0 11 (by decide)
  refine V_aload_0 d_hi_init_12 ?_
  refine V_bipush 30 d_hi_init_13 (by decide) ?_
  refine V_bipush 24 d_hi_init_15 (by decide) ?_
  refine I_mu (n := 30) (r := 12) 43 32 774 d_hi_init_17 (q_in 122 (by decide +kernel) rfl) (by decide +kernel) (by decide +kernel) rfl ⟨rfl, rfl, rfl, rfl, by decide, by decide, by decide, by decide⟩ hF1 (by decide) ?_
  have hF2 := hF1.grid 43 30 (by decide)
  refine V_putF (n := 4) d_hi_init_21 fl_hi_17 ⟨by decide, by decide, by decide +kernel⟩ rfl rfl rfl rfl (fun c hc => by cases hc; rfl) (by decide) ?_
  have hF3 := hF2.upR 10 1 12 (by decide)
  refine V_aload_0 d_hi_init_24 ?_
  refine I_cl d_hi_init_25 ml_hi_20 rfl (by decide) (by decide) ?_
  have hF4 := fr_cl hF3
  exact V_return d_hi_init_28 (hR 32 774 (by decide) (by decide))
def rI_ch (rf : Int → Int → Int) : Int → Int → Int := (q_up rf 43 0 44)
def fI_ch (f : q_F) : q_F := f
theorem fr_ch {rf : Int → Int → Int} {f : q_F} (hF : fresh 44 rf f) : fresh 45 (rI_ch rf) (fI_ch f) := by
  have hF0 := hF.mono 45 (by decide)
  have hF1 := hF0.upR 43 0 44 (by decide)
  exact hF1
theorem ok_ch_init {D : q_D} {rf : Int → Int → Int} {f : q_F} (hF : fresh 44 rf f) : Ok D m_ch_init [vr D 43] (44, rf, 0, 0) f (fun v z' f2 => v = vu ∧ z'.1 = 45 ∧ z'.2.1 = rI_ch rf ∧ f2 = fI_ch f) := by
  refine I_ok (L0 := [vr D 43]) mi_ch_init rfl rfl (Nat.le_of_ble_eq_true rfl) (fun C hR => ?_)
  refine V_aload_0 d_ch_init_0 ?_
  refine V_obj d_ch_init_1 (q_in 148 (by decide +kernel) rfl) (q_in 23 (by decide +kernel) rfl) (q_in 24 (by decide +kernel) rfl) (by decide) ?_
  refine V_aload_0 d_ch_init_4 ?_
  refine V_bipush 24 d_ch_init_5 (by decide) ?_
  refine I_ai (r := 44) 45 1 24 d_ch_init_7 (by decide +kernel) rfl ⟨rfl, rfl, rfl, by decide, by decide⟩ hF (by decide) ?_
  have hF0 := hF.mono 45 (by decide)
  refine V_putF (n := 1) d_ch_init_9 fl_ch_9 ⟨by decide, by decide, by decide +kernel⟩ rfl rfl rfl rfl (fun c hc => by cases hc; rfl) (by decide) ?_
  have hF1 := hF0.upR 43 0 44 (by decide)
  exact V_return d_ch_init_12 (hR 1 24 (by decide) (by decide))
def rI_cr (rf : Int → Int → Int) : Int → Int → Int := (q_up (q_up (q_up (q_up rf 45 0 46) 45 2 47) 45 4 48) 45 5 49)
def fI_cr (f : q_F) : q_F := f
theorem fr_cr {rf : Int → Int → Int} {f : q_F} (hF : fresh 46 rf f) : fresh 50 (rI_cr rf) (fI_cr f) := by
  have hF0 := hF.mono 47 (by decide)
  have hF1 := hF0.upR 45 0 46 (by decide)
  have hF2 := hF1.mono 48 (by decide)
  have hF3 := hF2.upR 45 2 47 (by decide)
  have hF4 := hF3.mono 49 (by decide)
  have hF5 := hF4.upR 45 4 48 (by decide)
  have hF6 := hF5.mono 50 (by decide)
  have hF7 := hF6.upR 45 5 49 (by decide)
  exact hF7
theorem ok_cr_init {D : q_D} {rf : Int → Int → Int} {f : q_F} (hF : fresh 46 rf f) : Ok D m_cr_init [vr D 45] (46, rf, 0, 0) f (fun v z' f2 => v = vu ∧ z'.1 = 50 ∧ z'.2.1 = rI_cr rf ∧ f2 = fI_cr f) := by
  refine I_ok (L0 := [vr D 45]) mi_cr_init rfl rfl (Nat.le_of_ble_eq_true rfl) (fun C hR => ?_)
  refine V_aload_0 d_cr_init_0 ?_
  refine V_obj d_cr_init_1 (q_in 158 (by decide +kernel) rfl) (q_in 23 (by decide +kernel) rfl) (q_in 24 (by decide +kernel) rfl) (by decide) ?_
  refine V_aload_0 d_cr_init_4 ?_
  refine V_bipush 8 d_cr_init_5 (by decide) ?_
  refine I_ai (r := 46) 47 1 8 d_cr_init_7 (by decide +kernel) rfl ⟨rfl, rfl, rfl, by decide, by decide⟩ hF (by decide) ?_
  have hF0 := hF.mono 47 (by decide)
  refine V_putF (n := 6) d_cr_init_9 fl_cr_11 ⟨by decide, by decide, by decide +kernel⟩ rfl rfl rfl rfl (fun c hc => by cases hc; rfl) (by decide) ?_
  have hF1 := hF0.upR 45 0 46 (by decide)
  refine V_aload_0 d_cr_init_12 ?_
  refine V_bipush 7 d_cr_init_13 (by decide) ?_
  refine I_ai (r := 47) 48 2 15 d_cr_init_15 (by decide +kernel) rfl ⟨rfl, rfl, rfl, by decide, by decide⟩ hF1 (by decide) ?_
  have hF2 := hF1.mono 48 (by decide)
  refine V_putF (n := 6) d_cr_init_17 fl_cr_15 ⟨by decide, by decide, by decide +kernel⟩ rfl rfl rfl rfl (fun c hc => by cases hc; rfl) (by decide) ?_
  have hF3 := hF2.upR 45 2 47 (by decide)
  refine V_aload_0 d_cr_init_20 ?_
  refine V_sipush 256 d_cr_init_21 (by decide) ?_
  refine I_ai (r := 48) 49 3 271 d_cr_init_24 (by decide +kernel) rfl ⟨rfl, rfl, rfl, by decide, by decide⟩ hF3 (by decide) ?_
  have hF4 := hF3.mono 49 (by decide)
  refine V_putF (n := 6) d_cr_init_26 fl_cr_18 ⟨by decide, by decide, by decide +kernel⟩ rfl rfl rfl rfl (fun c hc => by cases hc; rfl) (by decide) ?_
  have hF5 := hF4.upR 45 4 48 (by decide)
  refine V_aload_0 d_cr_init_29 ?_
  refine V_sipush 256 d_cr_init_30 (by decide) ?_
  refine I_ai (r := 49) 50 4 527 d_cr_init_33 (by decide +kernel) rfl ⟨rfl, rfl, rfl, by decide, by decide⟩ hF5 (by decide) ?_
  have hF6 := hF5.mono 50 (by decide)
  refine V_putF (n := 6) d_cr_init_35 fl_cr_21 ⟨by decide, by decide, by decide +kernel⟩ rfl rfl rfl rfl (fun c hc => by cases hc; rfl) (by decide) ?_
  have hF7 := hF6.upR 45 5 49 (by decide)
  exact V_return d_cr_init_38 (hR 4 527 (by decide) (by decide))
def rI_gd51 (rf : Int → Int → Int) : Int → Int → Int := (q_up (q_up (q_up (rfg (q_up (rfg (q_up (rfg (q_up (rfg (q_up (q_up (rfg (q_up (rfg (q_up (rfg (q_up (rfg (q_up (rfg (q_up rf 51 0 52) 53 4) 51 1 53) 58 6) 51 2 58) 65 8) 51 3 65) 74 5) 51 4 74) 80 5) 51 5 80) 51 6 86) 87 8) 51 7 87) 96 24) 51 8 96) 121 5) 51 9 121) 127 5) 51 10 127) 51 11 133) 51 12 134)
def fI_gd51 (f : q_F) : q_F := f
theorem fr_gd51 {rf : Int → Int → Int} {f : q_F} (hF : fresh 52 rf f) : fresh 135 (rI_gd51 rf) (fI_gd51 f) := by
  have hF0 := hF.mono 53 (by decide)
  have hF1 := hF0.upR 51 0 52 (by decide)
  have hF2 := hF1.grid 58 4 (by decide)
  have hF3 := hF2.upR 51 1 53 (by decide)
  have hF4 := hF3.grid 65 6 (by decide)
  have hF5 := hF4.upR 51 2 58 (by decide)
  have hF6 := hF5.grid 74 8 (by decide)
  have hF7 := hF6.upR 51 3 65 (by decide)
  have hF8 := hF7.grid 80 5 (by decide)
  have hF9 := hF8.upR 51 4 74 (by decide)
  have hF10 := hF9.grid 86 5 (by decide)
  have hF11 := hF10.upR 51 5 80 (by decide)
  have hF12 := hF11.mono 87 (by decide)
  have hF13 := hF12.upR 51 6 86 (by decide)
  have hF14 := hF13.grid 96 8 (by decide)
  have hF15 := hF14.upR 51 7 87 (by decide)
  have hF16 := hF15.grid 121 24 (by decide)
  have hF17 := hF16.upR 51 8 96 (by decide)
  have hF18 := hF17.grid 127 5 (by decide)
  have hF19 := hF18.upR 51 9 121 (by decide)
  have hF20 := hF19.grid 133 5 (by decide)
  have hF21 := hF20.upR 51 10 127 (by decide)
  have hF22 := hF21.mono 134 (by decide)
  have hF23 := hF22.upR 51 11 133 (by decide)
  have hF24 := hF23.mono 135 (by decide)
  have hF25 := hF24.upR 51 12 134 (by decide)
  exact hF25
theorem ok_gd51_init {D : q_D} {rf : Int → Int → Int} {f : q_F} (hF : fresh 52 rf f) : Ok D m_gd_init [vr D 51] (52, rf, 0, 0) f (fun v z' f2 => v = vu ∧ z'.1 = 135 ∧ z'.2.1 = rI_gd51 rf ∧ f2 = fI_gd51 f) := by
  refine I_ok (L0 := [vr D 51]) mi_gd_init rfl rfl (Nat.le_of_ble_eq_true rfl) (fun C hR => ?_)
  refine V_aload_0 d_gd_init_0 ?_
  refine V_obj d_gd_init_1 (q_in 187 (by decide +kernel) rfl) (q_in 23 (by decide +kernel) rfl) (q_in 24 (by decide +kernel) rfl) (by decide) ?_
  refine V_aload_0 d_gd_init_4 ?_
  refine V_bipush 7 d_gd_init_5 (by decide) ?_
  refine I_ai (r := 52) 53 1 7 d_gd_init_7 (by decide +kernel) rfl ⟨rfl, rfl, rfl, by decide, by decide⟩ hF (by decide) ?_
  have hF0 := hF.mono 53 (by decide)
  refine V_putF (n := 15) d_gd_init_9 fl_gd_9 ⟨by decide, by decide, by decide +kernel⟩ rfl rfl rfl rfl (fun c hc => by cases hc; rfl) (by decide) ?_
  have hF1 := hF0.upR 51 0 52 (by decide)
  refine V_aload_0 d_gd_init_12 ?_
  refine V_iconst 4 d_gd_init_13 ?_
  refine V_bipush 8 d_gd_init_14 (by decide) ?_
  refine I_mu (n := 4) (r := 53) 58 6 43 d_gd_init_16 (q_in 188 (by decide +kernel) rfl) (by decide +kernel) (by decide +kernel) rfl ⟨rfl, rfl, rfl, rfl, by decide, by decide, by decide, by decide⟩ hF1 (by decide) ?_
  have hF2 := hF1.grid 58 4 (by decide)
  refine V_putF (n := 15) d_gd_init_20 fl_gd_17 ⟨by decide, by decide, by decide +kernel⟩ rfl rfl rfl rfl (fun c hc => by cases hc; rfl) (by decide) ?_
  have hF3 := hF2.upR 51 1 53 (by decide)
  refine V_aload_0 d_gd_init_23 ?_
  refine V_bipush 6 d_gd_init_24 (by decide) ?_
  refine V_iconst 2 d_gd_init_26 ?_
  refine I_mu (n := 6) (r := 58) 65 13 61 d_gd_init_27 (q_in 188 (by decide +kernel) rfl) (by decide +kernel) (by decide +kernel) rfl ⟨rfl, rfl, rfl, rfl, by decide, by decide, by decide, by decide⟩ hF3 (by decide) ?_
  have hF4 := hF3.grid 65 6 (by decide)
  refine V_putF (n := 15) d_gd_init_31 fl_gd_20 ⟨by decide, by decide, by decide +kernel⟩ rfl rfl rfl rfl (fun c hc => by cases hc; rfl) (by decide) ?_
  have hF5 := hF4.upR 51 2 58 (by decide)
  refine V_aload_0 d_gd_init_34 ?_
  refine V_bipush 8 d_gd_init_35 (by decide) ?_
  refine V_bipush 6 d_gd_init_37 (by decide) ?_
  refine I_mu (n := 8) (r := 65) 74 22 117 d_gd_init_39 (q_in 188 (by decide +kernel) rfl) (by decide +kernel) (by decide +kernel) rfl ⟨rfl, rfl, rfl, rfl, by decide, by decide, by decide, by decide⟩ hF5 (by decide) ?_
  have hF6 := hF5.grid 74 8 (by decide)
  refine V_putF (n := 15) d_gd_init_43 fl_gd_23 ⟨by decide, by decide, by decide +kernel⟩ rfl rfl rfl rfl (fun c hc => by cases hc; rfl) (by decide) ?_
  have hF7 := hF6.upR 51 3 65 (by decide)
  refine V_aload_0 d_gd_init_46 ?_
  refine V_iconst 5 d_gd_init_47 ?_
  refine V_bipush 6 d_gd_init_48 (by decide) ?_
  refine I_mu (n := 5) (r := 74) 80 28 152 d_gd_init_50 (q_in 188 (by decide +kernel) rfl) (by decide +kernel) (by decide +kernel) rfl ⟨rfl, rfl, rfl, rfl, by decide, by decide, by decide, by decide⟩ hF7 (by decide) ?_
  have hF8 := hF7.grid 80 5 (by decide)
  refine V_putF (n := 15) d_gd_init_54 fl_gd_26 ⟨by decide, by decide, by decide +kernel⟩ rfl rfl rfl rfl (fun c hc => by cases hc; rfl) (by decide) ?_
  have hF9 := hF8.upR 51 4 74 (by decide)
  refine V_aload_0 d_gd_init_57 ?_
  refine V_iconst 5 d_gd_init_58 ?_
  refine V_bipush 6 d_gd_init_59 (by decide) ?_
  refine I_mu (n := 5) (r := 80) 86 34 187 d_gd_init_61 (q_in 188 (by decide +kernel) rfl) (by decide +kernel) (by decide +kernel) rfl ⟨rfl, rfl, rfl, rfl, by decide, by decide, by decide, by decide⟩ hF9 (by decide) ?_
  have hF10 := hF9.grid 86 5 (by decide)
  refine V_putF (n := 15) d_gd_init_65 fl_gd_29 ⟨by decide, by decide, by decide +kernel⟩ rfl rfl rfl rfl (fun c hc => by cases hc; rfl) (by decide) ?_
  have hF11 := hF10.upR 51 5 80 (by decide)
  refine V_aload_0 d_gd_init_68 ?_
  refine V_iconst 5 d_gd_init_69 ?_
  refine I_ai (r := 86) 87 35 192 d_gd_init_70 (by decide +kernel) rfl ⟨rfl, rfl, rfl, by decide, by decide⟩ hF11 (by decide) ?_
  have hF12 := hF11.mono 87 (by decide)
  refine V_putF (n := 15) d_gd_init_72 fl_gd_32 ⟨by decide, by decide, by decide +kernel⟩ rfl rfl rfl rfl (fun c hc => by cases hc; rfl) (by decide) ?_
  have hF13 := hF12.upR 51 6 86 (by decide)
  refine V_aload_0 d_gd_init_75 ?_
  refine V_bipush 8 d_gd_init_76 (by decide) ?_
  refine V_bipush 8 d_gd_init_78 (by decide) ?_
  refine I_mu (n := 8) (r := 87) 96 44 264 d_gd_init_80 (q_in 188 (by decide +kernel) rfl) (by decide +kernel) (by decide +kernel) rfl ⟨rfl, rfl, rfl, rfl, by decide, by decide, by decide, by decide⟩ hF13 (by decide) ?_
  have hF14 := hF13.grid 96 8 (by decide)
  refine V_putF (n := 15) d_gd_init_84 fl_gd_35 ⟨by decide, by decide, by decide +kernel⟩ rfl rfl rfl rfl (fun c hc => by cases hc; rfl) (by decide) ?_
  have hF15 := hF14.upR 51 7 87 (by decide)
  refine V_aload_0 d_gd_init_87 ?_
  refine V_bipush 24 d_gd_init_88 (by decide) ?_
  refine V_iconst 5 d_gd_init_90 ?_
  refine I_mu (n := 24) (r := 96) 121 69 408 d_gd_init_91 (q_in 188 (by decide +kernel) rfl) (by decide +kernel) (by decide +kernel) rfl ⟨rfl, rfl, rfl, rfl, by decide, by decide, by decide, by decide⟩ hF15 (by decide) ?_
  have hF16 := hF15.grid 121 24 (by decide)
  refine V_putF (n := 15) d_gd_init_95 fl_gd_38 ⟨by decide, by decide, by decide +kernel⟩ rfl rfl rfl rfl (fun c hc => by cases hc; rfl) (by decide) ?_
  have hF17 := hF16.upR 51 8 96 (by decide)
  refine V_aload_0 d_gd_init_98 ?_
  refine V_iconst 5 d_gd_init_99 ?_
  refine V_bipush 24 d_gd_init_100 (by decide) ?_
  refine I_mu (n := 5) (r := 121) 127 75 533 d_gd_init_102 (q_in 188 (by decide +kernel) rfl) (by decide +kernel) (by decide +kernel) rfl ⟨rfl, rfl, rfl, rfl, by decide, by decide, by decide, by decide⟩ hF17 (by decide) ?_
  have hF18 := hF17.grid 127 5 (by decide)
  refine V_putF (n := 15) d_gd_init_106 fl_gd_41 ⟨by decide, by decide, by decide +kernel⟩ rfl rfl rfl rfl (fun c hc => by cases hc; rfl) (by decide) ?_
  have hF19 := hF18.upR 51 9 121 (by decide)
  refine V_aload_0 d_gd_init_109 ?_
  refine V_iconst 5 d_gd_init_110 ?_
  refine V_bipush 24 d_gd_init_111 (by decide) ?_
  refine I_mu (n := 5) (r := 127) 133 81 658 d_gd_init_113 (q_in 188 (by decide +kernel) rfl) (by decide +kernel) (by decide +kernel) rfl ⟨rfl, rfl, rfl, rfl, by decide, by decide, by decide, by decide⟩ hF19 (by decide) ?_
  have hF20 := hF19.grid 133 5 (by decide)
  refine V_putF (n := 15) d_gd_init_117 fl_gd_44 ⟨by decide, by decide, by decide +kernel⟩ rfl rfl rfl rfl (fun c hc => by cases hc; rfl) (by decide) ?_
  have hF21 := hF20.upR 51 10 127 (by decide)
  refine V_aload_0 d_gd_init_120 ?_
  refine V_bipush 24 d_gd_init_121 (by decide) ?_
  refine I_ai (r := 133) 134 82 682 d_gd_init_123 (by decide +kernel) rfl ⟨rfl, rfl, rfl, by decide, by decide⟩ hF21 (by decide) ?_
  have hF22 := hF21.mono 134 (by decide)
  refine V_putF (n := 15) d_gd_init_125 fl_gd_47 ⟨by decide, by decide, by decide +kernel⟩ rfl rfl rfl rfl (fun c hc => by cases hc; rfl) (by decide) ?_
  have hF23 := hF22.upR 51 11 133 (by decide)
  refine V_aload_0 d_gd_init_128 ?_
  refine V_bipush 24 d_gd_init_129 (by decide) ?_
  refine I_ai (r := 134) 135 83 706 d_gd_init_131 (by decide +kernel) rfl ⟨rfl, rfl, rfl, by decide, by decide⟩ hF23 (by decide) ?_
  have hF24 := hF23.mono 135 (by decide)
  refine V_putF (n := 15) d_gd_init_133 fl_gd_50 ⟨by decide, by decide, by decide +kernel⟩ rfl rfl rfl rfl (fun c hc => by cases hc; rfl) (by decide) ?_
  have hF25 := hF24.upR 51 12 134 (by decide)
  exact V_return d_gd_init_136 (hR 83 706 (by decide) (by decide))
def rI_gd135 (rf : Int → Int → Int) : Int → Int → Int := (q_up (q_up (q_up (rfg (q_up (rfg (q_up (rfg (q_up (rfg (q_up (q_up (rfg (q_up (rfg (q_up (rfg (q_up (rfg (q_up (rfg (q_up rf 135 0 136) 137 4) 135 1 137) 142 6) 135 2 142) 149 8) 135 3 149) 158 5) 135 4 158) 164 5) 135 5 164) 135 6 170) 171 8) 135 7 171) 180 24) 135 8 180) 205 5) 135 9 205) 211 5) 135 10 211) 135 11 217) 135 12 218)
def fI_gd135 (f : q_F) : q_F := f
theorem fr_gd135 {rf : Int → Int → Int} {f : q_F} (hF : fresh 136 rf f) : fresh 219 (rI_gd135 rf) (fI_gd135 f) := by
  have hF0 := hF.mono 137 (by decide)
  have hF1 := hF0.upR 135 0 136 (by decide)
  have hF2 := hF1.grid 142 4 (by decide)
  have hF3 := hF2.upR 135 1 137 (by decide)
  have hF4 := hF3.grid 149 6 (by decide)
  have hF5 := hF4.upR 135 2 142 (by decide)
  have hF6 := hF5.grid 158 8 (by decide)
  have hF7 := hF6.upR 135 3 149 (by decide)
  have hF8 := hF7.grid 164 5 (by decide)
  have hF9 := hF8.upR 135 4 158 (by decide)
  have hF10 := hF9.grid 170 5 (by decide)
  have hF11 := hF10.upR 135 5 164 (by decide)
  have hF12 := hF11.mono 171 (by decide)
  have hF13 := hF12.upR 135 6 170 (by decide)
  have hF14 := hF13.grid 180 8 (by decide)
  have hF15 := hF14.upR 135 7 171 (by decide)
  have hF16 := hF15.grid 205 24 (by decide)
  have hF17 := hF16.upR 135 8 180 (by decide)
  have hF18 := hF17.grid 211 5 (by decide)
  have hF19 := hF18.upR 135 9 205 (by decide)
  have hF20 := hF19.grid 217 5 (by decide)
  have hF21 := hF20.upR 135 10 211 (by decide)
  have hF22 := hF21.mono 218 (by decide)
  have hF23 := hF22.upR 135 11 217 (by decide)
  have hF24 := hF23.mono 219 (by decide)
  have hF25 := hF24.upR 135 12 218 (by decide)
  exact hF25
theorem ok_gd135_init {D : q_D} {rf : Int → Int → Int} {f : q_F} (hF : fresh 136 rf f) : Ok D m_gd_init [vr D 135] (136, rf, 0, 0) f (fun v z' f2 => v = vu ∧ z'.1 = 219 ∧ z'.2.1 = rI_gd135 rf ∧ f2 = fI_gd135 f) := by
  refine I_ok (L0 := [vr D 135]) mi_gd_init rfl rfl (Nat.le_of_ble_eq_true rfl) (fun C hR => ?_)
  refine V_aload_0 d_gd_init_0 ?_
  refine V_obj d_gd_init_1 (q_in 187 (by decide +kernel) rfl) (q_in 23 (by decide +kernel) rfl) (q_in 24 (by decide +kernel) rfl) (by decide) ?_
  refine V_aload_0 d_gd_init_4 ?_
  refine V_bipush 7 d_gd_init_5 (by decide) ?_
  refine I_ai (r := 136) 137 1 7 d_gd_init_7 (by decide +kernel) rfl ⟨rfl, rfl, rfl, by decide, by decide⟩ hF (by decide) ?_
  have hF0 := hF.mono 137 (by decide)
  refine V_putF (n := 15) d_gd_init_9 fl_gd_9 ⟨by decide, by decide, by decide +kernel⟩ rfl rfl rfl rfl (fun c hc => by cases hc; rfl) (by decide) ?_
  have hF1 := hF0.upR 135 0 136 (by decide)
  refine V_aload_0 d_gd_init_12 ?_
  refine V_iconst 4 d_gd_init_13 ?_
  refine V_bipush 8 d_gd_init_14 (by decide) ?_
  refine I_mu (n := 4) (r := 137) 142 6 43 d_gd_init_16 (q_in 188 (by decide +kernel) rfl) (by decide +kernel) (by decide +kernel) rfl ⟨rfl, rfl, rfl, rfl, by decide, by decide, by decide, by decide⟩ hF1 (by decide) ?_
  have hF2 := hF1.grid 142 4 (by decide)
  refine V_putF (n := 15) d_gd_init_20 fl_gd_17 ⟨by decide, by decide, by decide +kernel⟩ rfl rfl rfl rfl (fun c hc => by cases hc; rfl) (by decide) ?_
  have hF3 := hF2.upR 135 1 137 (by decide)
  refine V_aload_0 d_gd_init_23 ?_
  refine V_bipush 6 d_gd_init_24 (by decide) ?_
  refine V_iconst 2 d_gd_init_26 ?_
  refine I_mu (n := 6) (r := 142) 149 13 61 d_gd_init_27 (q_in 188 (by decide +kernel) rfl) (by decide +kernel) (by decide +kernel) rfl ⟨rfl, rfl, rfl, rfl, by decide, by decide, by decide, by decide⟩ hF3 (by decide) ?_
  have hF4 := hF3.grid 149 6 (by decide)
  refine V_putF (n := 15) d_gd_init_31 fl_gd_20 ⟨by decide, by decide, by decide +kernel⟩ rfl rfl rfl rfl (fun c hc => by cases hc; rfl) (by decide) ?_
  have hF5 := hF4.upR 135 2 142 (by decide)
  refine V_aload_0 d_gd_init_34 ?_
  refine V_bipush 8 d_gd_init_35 (by decide) ?_
  refine V_bipush 6 d_gd_init_37 (by decide) ?_
  refine I_mu (n := 8) (r := 149) 158 22 117 d_gd_init_39 (q_in 188 (by decide +kernel) rfl) (by decide +kernel) (by decide +kernel) rfl ⟨rfl, rfl, rfl, rfl, by decide, by decide, by decide, by decide⟩ hF5 (by decide) ?_
  have hF6 := hF5.grid 158 8 (by decide)
  refine V_putF (n := 15) d_gd_init_43 fl_gd_23 ⟨by decide, by decide, by decide +kernel⟩ rfl rfl rfl rfl (fun c hc => by cases hc; rfl) (by decide) ?_
  have hF7 := hF6.upR 135 3 149 (by decide)
  refine V_aload_0 d_gd_init_46 ?_
  refine V_iconst 5 d_gd_init_47 ?_
  refine V_bipush 6 d_gd_init_48 (by decide) ?_
  refine I_mu (n := 5) (r := 158) 164 28 152 d_gd_init_50 (q_in 188 (by decide +kernel) rfl) (by decide +kernel) (by decide +kernel) rfl ⟨rfl, rfl, rfl, rfl, by decide, by decide, by decide, by decide⟩ hF7 (by decide) ?_
  have hF8 := hF7.grid 164 5 (by decide)
  refine V_putF (n := 15) d_gd_init_54 fl_gd_26 ⟨by decide, by decide, by decide +kernel⟩ rfl rfl rfl rfl (fun c hc => by cases hc; rfl) (by decide) ?_
  have hF9 := hF8.upR 135 4 158 (by decide)
  refine V_aload_0 d_gd_init_57 ?_
  refine V_iconst 5 d_gd_init_58 ?_
  refine V_bipush 6 d_gd_init_59 (by decide) ?_
  refine I_mu (n := 5) (r := 164) 170 34 187 d_gd_init_61 (q_in 188 (by decide +kernel) rfl) (by decide +kernel) (by decide +kernel) rfl ⟨rfl, rfl, rfl, rfl, by decide, by decide, by decide, by decide⟩ hF9 (by decide) ?_
  have hF10 := hF9.grid 170 5 (by decide)
  refine V_putF (n := 15) d_gd_init_65 fl_gd_29 ⟨by decide, by decide, by decide +kernel⟩ rfl rfl rfl rfl (fun c hc => by cases hc; rfl) (by decide) ?_
  have hF11 := hF10.upR 135 5 164 (by decide)
  refine V_aload_0 d_gd_init_68 ?_
  refine V_iconst 5 d_gd_init_69 ?_
  refine I_ai (r := 170) 171 35 192 d_gd_init_70 (by decide +kernel) rfl ⟨rfl, rfl, rfl, by decide, by decide⟩ hF11 (by decide) ?_
  have hF12 := hF11.mono 171 (by decide)
  refine V_putF (n := 15) d_gd_init_72 fl_gd_32 ⟨by decide, by decide, by decide +kernel⟩ rfl rfl rfl rfl (fun c hc => by cases hc; rfl) (by decide) ?_
  have hF13 := hF12.upR 135 6 170 (by decide)
  refine V_aload_0 d_gd_init_75 ?_
  refine V_bipush 8 d_gd_init_76 (by decide) ?_
  refine V_bipush 8 d_gd_init_78 (by decide) ?_
  refine I_mu (n := 8) (r := 171) 180 44 264 d_gd_init_80 (q_in 188 (by decide +kernel) rfl) (by decide +kernel) (by decide +kernel) rfl ⟨rfl, rfl, rfl, rfl, by decide, by decide, by decide, by decide⟩ hF13 (by decide) ?_
  have hF14 := hF13.grid 180 8 (by decide)
  refine V_putF (n := 15) d_gd_init_84 fl_gd_35 ⟨by decide, by decide, by decide +kernel⟩ rfl rfl rfl rfl (fun c hc => by cases hc; rfl) (by decide) ?_
  have hF15 := hF14.upR 135 7 171 (by decide)
  refine V_aload_0 d_gd_init_87 ?_
  refine V_bipush 24 d_gd_init_88 (by decide) ?_
  refine V_iconst 5 d_gd_init_90 ?_
  refine I_mu (n := 24) (r := 180) 205 69 408 d_gd_init_91 (q_in 188 (by decide +kernel) rfl) (by decide +kernel) (by decide +kernel) rfl ⟨rfl, rfl, rfl, rfl, by decide, by decide, by decide, by decide⟩ hF15 (by decide) ?_
  have hF16 := hF15.grid 205 24 (by decide)
  refine V_putF (n := 15) d_gd_init_95 fl_gd_38 ⟨by decide, by decide, by decide +kernel⟩ rfl rfl rfl rfl (fun c hc => by cases hc; rfl) (by decide) ?_
  have hF17 := hF16.upR 135 8 180 (by decide)
  refine V_aload_0 d_gd_init_98 ?_
  refine V_iconst 5 d_gd_init_99 ?_
  refine V_bipush 24 d_gd_init_100 (by decide) ?_
  refine I_mu (n := 5) (r := 205) 211 75 533 d_gd_init_102 (q_in 188 (by decide +kernel) rfl) (by decide +kernel) (by decide +kernel) rfl ⟨rfl, rfl, rfl, rfl, by decide, by decide, by decide, by decide⟩ hF17 (by decide) ?_
  have hF18 := hF17.grid 211 5 (by decide)
  refine V_putF (n := 15) d_gd_init_106 fl_gd_41 ⟨by decide, by decide, by decide +kernel⟩ rfl rfl rfl rfl (fun c hc => by cases hc; rfl) (by decide) ?_
  have hF19 := hF18.upR 135 9 205 (by decide)
  refine V_aload_0 d_gd_init_109 ?_
  refine V_iconst 5 d_gd_init_110 ?_
  refine V_bipush 24 d_gd_init_111 (by decide) ?_
  refine I_mu (n := 5) (r := 211) 217 81 658 d_gd_init_113 (q_in 188 (by decide +kernel) rfl) (by decide +kernel) (by decide +kernel) rfl ⟨rfl, rfl, rfl, rfl, by decide, by decide, by decide, by decide⟩ hF19 (by decide) ?_
  have hF20 := hF19.grid 217 5 (by decide)
  refine V_putF (n := 15) d_gd_init_117 fl_gd_44 ⟨by decide, by decide, by decide +kernel⟩ rfl rfl rfl rfl (fun c hc => by cases hc; rfl) (by decide) ?_
  have hF21 := hF20.upR 135 10 211 (by decide)
  refine V_aload_0 d_gd_init_120 ?_
  refine V_bipush 24 d_gd_init_121 (by decide) ?_
  refine I_ai (r := 217) 218 82 682 d_gd_init_123 (by decide +kernel) rfl ⟨rfl, rfl, rfl, by decide, by decide⟩ hF21 (by decide) ?_
  have hF22 := hF21.mono 218 (by decide)
  refine V_putF (n := 15) d_gd_init_125 fl_gd_47 ⟨by decide, by decide, by decide +kernel⟩ rfl rfl rfl rfl (fun c hc => by cases hc; rfl) (by decide) ?_
  have hF23 := hF22.upR 135 11 217 (by decide)
  refine V_aload_0 d_gd_init_128 ?_
  refine V_bipush 24 d_gd_init_129 (by decide) ?_
  refine I_ai (r := 218) 219 83 706 d_gd_init_131 (by decide +kernel) rfl ⟨rfl, rfl, rfl, by decide, by decide⟩ hF23 (by decide) ?_
  have hF24 := hF23.mono 219 (by decide)
  refine V_putF (n := 15) d_gd_init_133 fl_gd_50 ⟨by decide, by decide, by decide +kernel⟩ rfl rfl rfl rfl (fun c hc => by cases hc; rfl) (by decide) ?_
  have hF25 := hF24.upR 135 12 218 (by decide)
  exact V_return d_gd_init_136 (hR 83 706 (by decide) (by decide))
def rI_hs (rf : Int → Int → Int) : Int → Int → Int := (q_up (rI_gd135 (q_up (rI_gd51 (q_up (q_up (rI_cr (q_up (rI_ch (q_up (rI_hi (q_up (rI_gr (q_up (rI_tp rf) 0 0 1)) 0 1 3)) 0 2 10)) 0 3 43)) 0 4 45) 0 5 50)) 0 8 51)) 0 9 135)
def fI_hs (f : q_F) : q_F := (fI_gd135 (fI_gd51 (q_up (fI_cr (fI_ch (fI_hi (fI_gr (fI_tp f))))) 0 7 1)))
theorem fr_hs {rf : Int → Int → Int} {f : q_F} (hF : fresh 1 rf f) : fresh 219 (rI_hs rf) (fI_hs f) := by
  have hF0 := hF.mono 2 (by decide)
  have hF1 := fr_tp hF0
  have hF2 := hF1.upR 0 0 1 (by decide)
  have hF3 := hF2.mono 4 (by decide)
  have hF4 := fr_gr hF3
  have hF5 := hF4.upR 0 1 3 (by decide)
  have hF6 := hF5.mono 11 (by decide)
  have hF7 := fr_hi hF6
  have hF8 := hF7.upR 0 2 10 (by decide)
  have hF9 := hF8.mono 44 (by decide)
  have hF10 := fr_ch hF9
  have hF11 := hF10.upR 0 3 43 (by decide)
  have hF12 := hF11.mono 46 (by decide)
  have hF13 := fr_cr hF12
  have hF14 := hF13.upR 0 4 45 (by decide)
  have hF15 := hF14.mono 51 (by decide)
  have hF16 := hF15.upR 0 5 50 (by decide)
  have hF17 := hF16.upI 0 7 1 (by decide)
  have hF18 := hF17.mono 52 (by decide)
  have hF19 := fr_gd51 hF18
  have hF20 := hF19.upR 0 8 51 (by decide)
  have hF21 := hF20.mono 136 (by decide)
  have hF22 := fr_gd135 hF21
  have hF23 := hF22.upR 0 9 135 (by decide)
  exact hF23
theorem ok_hs_init {D : q_D} {rf : Int → Int → Int} {f : q_F} (hF : fresh 1 rf f) : Ok D m_hs_init [vr D 0] (1, rf, 0, 0) f (fun v z' f2 => v = vu ∧ z'.1 = 219 ∧ z'.2.1 = rI_hs rf ∧ f2 = fI_hs f) := by
  refine I_ok (L0 := [vr D 0]) mi_hs_init rfl rfl (Nat.le_of_ble_eq_true rfl) (fun C hR => ?_)
  refine V_aload_0 d_hs_init_0 ?_
  refine V_obj d_hs_init_1 (q_in 22 (by decide +kernel) rfl) (q_in 23 (by decide +kernel) rfl) (q_in 24 (by decide +kernel) rfl) (by decide) ?_
  refine V_aload_0 d_hs_init_4 ?_
  refine I_new (ci := 6) (X := R_tp) (Tb := F_tp) (n := 9) (r := 1) t_tp 2 1 9 d_hs_init_5 (q_in 25 (by decide +kernel) rfl) (q_in 26 (by decide +kernel) rfl) (q_in 2 (by decide +kernel) rfl) (by decide +kernel) rfl t_tp_ok (by decide +kernel) rfl ⟨rfl, rfl, rfl⟩ hF (by decide) ?_
  have hF0 := hF.mono 2 (by decide)
  refine V_dup d_hs_init_8 rfl ?_
  refine I_cN (M' := m_tp_init) (q := 1) (As := []) (rf' := rI_tp rf) (f' := fI_tp f) 3 2 1609 d_hs_init_9 ml_hs_9 mi_tp_init mv_tp_init ⟨rfl, rfl⟩ (by decide) rfl (Nat.le_of_ble_eq_true rfl) ⟨rfl, rfl, by decide, by decide⟩ (ok_tp_init hF0) ?_
  have hF1 := fr_tp hF0
  refine V_putF (n := 10) d_hs_init_12 fl_hs_10 ⟨by decide, by decide, by decide +kernel⟩ rfl rfl rfl rfl (fun c hc => by cases hc; rfl) (by decide) ?_
  have hF2 := hF1.upR 0 0 1 (by decide)
  refine V_aload_0 d_hs_init_15 ?_
  refine I_new (ci := 3) (X := R_gr) (Tb := F_gr) (n := 3) (r := 3) t_gr 4 3 1612 d_hs_init_16 (q_in 69 (by decide +kernel) rfl) (q_in 70 (by decide +kernel) rfl) (q_in 3 (by decide +kernel) rfl) (by decide +kernel) rfl t_gr_ok (by decide +kernel) rfl ⟨rfl, rfl, rfl⟩ hF2 (by decide) ?_
  have hF3 := hF2.mono 4 (by decide)
  refine V_dup d_hs_init_19 rfl ?_
  refine V_aload_0 d_hs_init_20 ?_
  refine V_getR (n := 10) (r := 1) d_hs_init_21 fl_hs_10 ⟨by decide, by decide, by decide +kernel⟩ ⟨rfl, by decide⟩ ?_
  refine I_cI (M' := m_gr_init) (q := 3) (As := [vr D 1]) (rf' := rI_gr (q_up (rI_tp rf) 0 0 1)) (f' := fI_gr (fI_tp f)) 10 9 3322 d_hs_init_24 ml_hs_18 mi_gr_init mv_gr_init ⟨rfl, rfl⟩ (by decide) rfl (Nat.le_of_ble_eq_true rfl) ⟨rfl, rfl, by decide, by decide⟩ (ok_gr_init hF3) ?_
  have hF4 := fr_gr hF3
  refine V_putF (n := 10) d_hs_init_27 fl_hs_21 ⟨by decide, by decide, by decide +kernel⟩ rfl rfl rfl rfl (fun c hc => by cases hc; rfl) (by decide) ?_
  have hF5 := hF4.upR 0 1 3 (by decide)
  refine V_aload_0 d_hs_init_30 ?_
  refine I_new (ci := 4) (X := R_hi) (Tb := F_hi) (n := 4) (r := 10) t_hi 11 10 3326 d_hs_init_31 (q_in 116 (by decide +kernel) rfl) (q_in 117 (by decide +kernel) rfl) (q_in 5 (by decide +kernel) rfl) (by decide +kernel) rfl t_hi_ok (by decide +kernel) rfl ⟨rfl, rfl, rfl⟩ hF5 (by decide) ?_
  have hF6 := hF5.mono 11 (by decide)
  refine V_dup d_hs_init_34 rfl ?_
  refine I_cI (M' := m_hi_init) (q := 10) (As := []) (rf' := rI_hi (q_up (rI_gr (q_up (rI_tp rf) 0 0 1)) 0 1 3)) (f' := fI_hi (fI_gr (fI_tp f))) 43 42 4100 d_hs_init_35 ml_hs_27 mi_hi_init mv_hi_init ⟨rfl, rfl⟩ (by decide) rfl (Nat.le_of_ble_eq_true rfl) ⟨rfl, rfl, by decide, by decide⟩ (ok_hi_init hF6) ?_
  have hF7 := fr_hi hF6
  refine V_putF (n := 10) d_hs_init_38 fl_hs_28 ⟨by decide, by decide, by decide +kernel⟩ rfl rfl rfl rfl (fun c hc => by cases hc; rfl) (by decide) ?_
  have hF8 := hF7.upR 0 2 10 (by decide)
  refine V_aload_0 d_hs_init_41 ?_
  refine I_new (ci := 0) (X := R_ch) (Tb := F_ch) (n := 1) (r := 43) t_ch 44 43 4101 d_hs_init_42 (q_in 143 (by decide +kernel) rfl) (q_in 144 (by decide +kernel) rfl) (q_in 6 (by decide +kernel) rfl) (by decide +kernel) rfl t_ch_ok (by decide +kernel) rfl ⟨rfl, rfl, rfl⟩ hF8 (by decide) ?_
  have hF9 := hF8.mono 44 (by decide)
  refine V_dup d_hs_init_45 rfl ?_
  refine I_cN (M' := m_ch_init) (q := 43) (As := []) (rf' := rI_ch (q_up (rI_hi (q_up (rI_gr (q_up (rI_tp rf) 0 0 1)) 0 1 3)) 0 2 10)) (f' := fI_ch (fI_hi (fI_gr (fI_tp f)))) 45 44 4125 d_hs_init_46 ml_hs_34 mi_ch_init mv_ch_init ⟨rfl, rfl⟩ (by decide) rfl (Nat.le_of_ble_eq_true rfl) ⟨rfl, rfl, by decide, by decide⟩ (ok_ch_init hF9) ?_
  have hF10 := fr_ch hF9
  refine V_putF (n := 10) d_hs_init_49 fl_hs_35 ⟨by decide, by decide, by decide +kernel⟩ rfl rfl rfl rfl (fun c hc => by cases hc; rfl) (by decide) ?_
  have hF11 := hF10.upR 0 3 43 (by decide)
  refine V_aload_0 d_hs_init_52 ?_
  refine I_new (ci := 1) (X := R_cr) (Tb := F_cr) (n := 6) (r := 45) t_cr 46 45 4131 d_hs_init_53 (q_in 153 (by decide +kernel) rfl) (q_in 154 (by decide +kernel) rfl) (q_in 7 (by decide +kernel) rfl) (by decide +kernel) rfl t_cr_ok (by decide +kernel) rfl ⟨rfl, rfl, rfl⟩ hF11 (by decide) ?_
  have hF12 := hF11.mono 46 (by decide)
  refine V_dup d_hs_init_56 rfl ?_
  refine I_cN (M' := m_cr_init) (q := 45) (As := []) (rf' := rI_cr (q_up (rI_ch (q_up (rI_hi (q_up (rI_gr (q_up (rI_tp rf) 0 0 1)) 0 1 3)) 0 2 10)) 0 3 43)) (f' := fI_cr (fI_ch (fI_hi (fI_gr (fI_tp f))))) 50 49 4658 d_hs_init_57 ml_hs_41 mi_cr_init mv_cr_init ⟨rfl, rfl⟩ (by decide) rfl (Nat.le_of_ble_eq_true rfl) ⟨rfl, rfl, by decide, by decide⟩ (ok_cr_init hF12) ?_
  have hF13 := fr_cr hF12
  refine V_putF (n := 10) d_hs_init_60 fl_hs_42 ⟨by decide, by decide, by decide +kernel⟩ rfl rfl rfl rfl (fun c hc => by cases hc; rfl) (by decide) ?_
  have hF14 := hF13.upR 0 4 45 (by decide)
  refine V_aload_0 d_hs_init_63 ?_
  refine V_bipush 25 d_hs_init_64 (by decide) ?_
  refine I_ai (r := 50) 51 50 4683 d_hs_init_66 (by decide +kernel) rfl ⟨rfl, rfl, rfl, by decide, by decide⟩ hF14 (by decide) ?_
  have hF15 := hF14.mono 51 (by decide)
  refine V_putF (n := 10) d_hs_init_68 fl_hs_46 ⟨by decide, by decide, by decide +kernel⟩ rfl rfl rfl rfl (fun c hc => by cases hc; rfl) (by decide) ?_
  have hF16 := hF15.upR 0 5 50 (by decide)
  refine V_aload_0 d_hs_init_71 ?_
  refine V_iconst 1 d_hs_init_72 ?_
  refine V_putI (n := 10) d_hs_init_73 fl_hs_50 ⟨by decide, by decide, by decide +kernel⟩ ?_
  have hF17 := hF16.upI 0 7 1 (by decide)
  refine V_aload_0 d_hs_init_76 ?_
  refine I_new (ci := 2) (X := R_gd) (Tb := F_gd) (n := 15) (r := 51) t_gd 52 51 4698 d_hs_init_77 (q_in 182 (by decide +kernel) rfl) (q_in 183 (by decide +kernel) rfl) (q_in 8 (by decide +kernel) rfl) (by decide +kernel) rfl t_gd_ok (by decide +kernel) rfl ⟨rfl, rfl, rfl⟩ hF17 (by decide) ?_
  have hF18 := hF17.mono 52 (by decide)
  refine V_dup d_hs_init_80 rfl ?_
  refine I_cN (M' := m_gd_init) (q := 51) (As := []) (rf' := rI_gd51 (q_up (q_up (rI_cr (q_up (rI_ch (q_up (rI_hi (q_up (rI_gr (q_up (rI_tp rf) 0 0 1)) 0 1 3)) 0 2 10)) 0 3 43)) 0 4 45) 0 5 50)) (f' := fI_gd51 (q_up (fI_cr (fI_ch (fI_hi (fI_gr (fI_tp f))))) 0 7 1)) 135 134 5404 d_hs_init_81 ml_hs_56 mi_gd_init mv_gd_init ⟨rfl, rfl⟩ (by decide) rfl (Nat.le_of_ble_eq_true rfl) ⟨rfl, rfl, by decide, by decide⟩ (ok_gd51_init hF18) ?_
  have hF19 := fr_gd51 hF18
  refine V_putR (n := 10) d_hs_init_84 fl_hs_57 ⟨by decide, by decide, by decide +kernel⟩ rfl rfl rfl (by decide) ?_
  have hF20 := hF19.upR 0 8 51 (by decide)
  refine V_aload_0 d_hs_init_87 ?_
  refine I_new (ci := 2) (X := R_gd) (Tb := F_gd) (n := 15) (r := 135) t_gd 136 135 5419 d_hs_init_88 (q_in 182 (by decide +kernel) rfl) (q_in 183 (by decide +kernel) rfl) (q_in 8 (by decide +kernel) rfl) (by decide +kernel) rfl t_gd_ok (by decide +kernel) rfl ⟨rfl, rfl, rfl⟩ hF20 (by decide) ?_
  have hF21 := hF20.mono 136 (by decide)
  refine V_dup d_hs_init_91 rfl ?_
  refine I_cN (M' := m_gd_init) (q := 135) (As := []) (rf' := rI_gd135 (q_up (rI_gd51 (q_up (q_up (rI_cr (q_up (rI_ch (q_up (rI_hi (q_up (rI_gr (q_up (rI_tp rf) 0 0 1)) 0 1 3)) 0 2 10)) 0 3 43)) 0 4 45) 0 5 50)) 0 8 51)) (f' := fI_gd135 (fI_gd51 (q_up (fI_cr (fI_ch (fI_hi (fI_gr (fI_tp f))))) 0 7 1))) 219 218 6125 d_hs_init_92 ml_hs_56 mi_gd_init mv_gd_init ⟨rfl, rfl⟩ (by decide) rfl (Nat.le_of_ble_eq_true rfl) ⟨rfl, rfl, by decide, by decide⟩ (ok_gd135_init hF21) ?_
  have hF22 := fr_gd135 hF21
  refine V_putR (n := 10) d_hs_init_95 fl_hs_61 ⟨by decide, by decide, by decide +kernel⟩ rfl rfl rfl (by decide) ?_
  have hF23 := hF22.upR 0 9 135 (by decide)
  exact V_return d_hs_init_98 (hR 218 6125 (by decide) (by decide))
