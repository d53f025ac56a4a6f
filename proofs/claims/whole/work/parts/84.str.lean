/-! what was there ahead of us: the constant text, statics; the JDK's own methods of a text -/
theorem q_W.old {D : q_D} {z : q_Z} {f : q_F} {H : Heap} (hW : q_W D z f H) : ∀ a : Nat, a < D.2.1.size → ¬ q_A D a → H[a]? = D.2.1[a]? := fun a _ h => hW.2.1 a (by unfold q_A at h; omega)
/-- the text's address, its bytes' -/
abbrev sS (D : q_D) : Value := .ref (D.2.2.2.2.2 0)
abbrev sB (D : q_D) : Value := .ref (D.2.2.2.2.2 1)
theorem q_X.obj {D : q_D} {U : State} (h : q_X D U) : va_O "java/lang/String" (D.2.2.2.2.2 0) (q_A D) U D.2.1 := (h.2.1.1 0 (by decide)).1
theorem q_X.coder {D : q_D} {U : State} (h : q_X D U) : va_OF "java/lang/String" "coder" "B" (vi 0) (D.2.2.2.2.2 0) (q_A D) U D.2.1 := (h.2.1.1 0 (by decide)).2.1
theorem q_X.value {D : q_D} {U : State} (h : q_X D U) : va_OF "java/lang/String" "value" "[B" (sB D) (D.2.2.2.2.2 0) (q_A D) U D.2.1 := (h.2.1.1 0 (by decide)).2.2.1
theorem q_X.bytes {D : q_D} {U : State} (h : q_X D U) : va_T .byte (D.2.2.2.2.2 1) 125 (fun j => .int (q_wb.getD j 0)) (q_A D) U D.2.1 := by
  have h1 := (h.2.1.1 0 (by decide)).2.2.2
  simp only [List.getD_cons_zero] at h1
  exact h1
theorem q_X.compact {D : q_D} {U : State} (h : q_X D U) : va_Z "java/lang/String" "COMPACT_STRINGS" "Z" (vi 1) (q_A D) U D.2.1 := h.2.2.1
theorem q_X.most {D : q_D} {U : State} (h : q_X D U) : va_Z "HiredShades$Guild" "MOST" "[I" (.ref (D.2.2.2.2.2 2)) (q_A D) U D.2.1 := h.2.2.2.1
theorem q_X.mostT {D : q_D} {U : State} (h : q_X D U) : va_T .int (D.2.2.2.2.2 2) 7 (fun j => .int (q_most.getD j 0)) (q_A D) U D.2.1 := h.2.2.2.2.1
theorem q_X.form {D : q_D} {U : State} (h : q_X D U) : va_Zq "jdk/internal/util/Preconditions" "SIOOBE_FORMATTER" "Ljava/util/function/BiFunction;" (q_A D) U D.2.1 := h.2.2.2.2.2
theorem q_ok.x {D : q_D} {C : q_C} {M : q_M} (h : q_ok D C M) : q_X D (c_s C) := h.2.2.2.2.2.2.2.2.1.2.2.2.2
section OLD
variable {D : q_D} {C : q_C} {M : q_M} {pc N cs ss : Nat} {L st : List Value} {z : q_Z} {rf : Int → Int → Int} {f : q_F}
theorem V_ldcS (hd : decode (q_cc M) pc = .ok (.ldc 46, 2)) (hc : (q_y M).cls = "HiredShades$Tape") (k : V D C M (pc + 2) L (sS D :: st) z f) : V D C M pc L st z f := fun hC H ls locs hW hL hlo =>
  va_ldcS hC.1 hC.2.1 (own := "HiredShades$Tape") (tx := q_words) (by rw [← hc]; exact hC.2.2.2.1) hC.x.1 hd (k hC H ls locs hW hL hlo)
theorem V_gets {idx : Nat} {cl n d : String} {v : Value} (hd : decode (q_cc M) pc = .ok (.getstatic idx, 3)) (hl : Cond.fieldLink (q_y M).cls idx cl n d ∈ q_T) (hz : ∀ U, q_X D U → va_Z cl n d v (q_A D) U D.2.1) (k : V D C M (pc + 3) L (v :: st) z f) : V D C M pc L st z f := by
  intro hC H ls locs hW hL hlo
  obtain ⟨cf, kf, fi, fd, a, cell, h1, h2, h3, h4, h5, h6, h7, h8⟩ := (hz _ hC.x).kept hW.old
  exact W.gets hC.1 hC.2.1 hC.2.2.2.1 (hC.2.2.2.2.1 _ hl) h1 h2 h3 h4 h5 (fun e => by rw [e] at h6; cases h6) h7 rfl hd (k hC H ls locs hW hL hlo)
theorem V_getsQ {idx : Nat} {cl n d : String} (hd : decode (q_cc M) pc = .ok (.getstatic idx, 3)) (hl : Cond.fieldLink (q_y M).cls idx cl n d ∈ q_T) (hz : ∀ U, q_X D U → va_Zq cl n d (q_A D) U D.2.1) (k0 : V D C M (pc + 3) L (.null :: st) z f) (k1 : ∀ a : Nat, V D C M (pc + 3) L (.ref a :: st) z f) : V D C M pc L st z f := by
  intro hC H ls locs hW hL hlo
  rcases hz _ hC.x with h | ⟨t, h⟩
  · obtain ⟨cf, kf, fi, fd, a, cell, h1, h2, h3, h4, h5, h6, h7, h8⟩ := h.kept hW.old
    exact W.gets hC.1 hC.2.1 hC.2.2.2.1 (hC.2.2.2.2.1 _ hl) h1 h2 h3 h4 h5 (fun e => by rw [e] at h6; cases h6) h7 rfl hd (k0 hC H ls locs hW hL hlo)
  · obtain ⟨cf, kf, fi, fd, a, cell, h1, h2, h3, h4, h5, h6, h7, h8⟩ := h.kept hW.old
    exact W.gets hC.1 hC.2.1 hC.2.2.2.1 (hC.2.2.2.2.1 _ hl) h1 h2 h3 h4 h5 (fun e => by rw [e] at h6; cases h6) h7 rfl hd (k1 t hC H ls locs hW hL hlo)
theorem V_getX {idx a : Nat} {o n d : String} {v : Value} (hd : decode (q_cc M) pc = .ok (.getfield idx, 3)) (hl : Cond.fieldLink (q_y M).cls idx o n d ∈ q_T) (hz : ∀ U, q_X D U → va_OF o n d v a (q_A D) U D.2.1) (k : V D C M (pc + 3) L (v :: st) z f) : V D C M pc L (.ref a :: st) z f := by
  intro hC H ls locs hW hL hlo
  obtain ⟨cf, kf, fi, fd, cell, h1, h2, h3, h4, h5, h6⟩ := (hz _ hC.x).kept hW.old
  exact W.getf hC.1 hC.2.1 hC.2.2.2.1 (hC.2.2.2.2.1 _ hl) h1 h2 h3 h4 (v := v) h5 rfl rfl hd (k hC H ls locs hW hL hlo)
theorem V_alenX {a n : Nat} {ty : FieldType} {w : Nat → Value} (hd : decode (q_cc M) pc = .ok (.arraylength, 1)) (hz : ∀ U, q_X D U → va_T ty a n w (q_A D) U D.2.1) (k : V D C M (pc + 1) L (vi n :: st) z f) : V D C M pc L (.ref a :: st) z f := by
  intro hC H ls locs hW hL hlo
  obtain ⟨cell, h1, h2, h3, h4, h5, h6, h7⟩ := (hz _ hC.x).kept hW.old
  refine W.alen (n := Int32.ofInt n) hC.1 hC.2.1 h1 h2 ?_ rfl rfl hd (k hC H ls locs hW hL hlo)
  rw [h5]; exact (Int32.ofInt_eq_ofNat).symm
theorem V_baldX {a n : Nat} {w : Nat → Value} {x : Int} {v : Value} (hd : decode (q_cc M) pc = .ok (.baload, 1)) (hz : ∀ U, q_X D U → va_T .byte a n w (q_A D) U D.2.1) (hx : 0 ≤ x ∧ x < n) (hn : (n : Int) < 2147483648) (hv : w x.toNat = v) (k : V D C M (pc + 1) L (v :: st) z f) : V D C M pc L (vi x :: .ref a :: st) z f := by
  intro hC H ls locs hW hL hlo
  obtain ⟨cell, h1, h2, h3, h4, h5, h6, h7⟩ := (hz _ hC.x).kept hW.old
  refine W.bald (v := v) hC.1 hC.2.1 h1 h2 h3 (fun q => ?_) ?_ rfl rfl hd (k hC H ls locs hW hL hlo)
  · rw [q_0, q_lt (by omega) (by omega), q_nc hx.1 (by omega)] at q
    omega
  · rw [q_nc hx.1 (by omega), h6 _ (by omega), hv]
theorem V_ialdX {a n : Nat} {w : Nat → Value} {x : Int} {v : Value} (hd : decode (q_cc M) pc = .ok (.iaload, 1)) (hz : ∀ U, q_X D U → va_T .int a n w (q_A D) U D.2.1) (hx : 0 ≤ x ∧ x < n) (hn : (n : Int) < 2147483648) (hv : w x.toNat = v) (k : V D C M (pc + 1) L (v :: st) z f) : V D C M pc L (vi x :: .ref a :: st) z f := by
  intro hC H ls locs hW hL hlo
  obtain ⟨cell, h1, h2, h3, h4, h5, h6, h7⟩ := (hz _ hC.x).kept hW.old
  refine W.iald (v := v) hC.1 hC.2.1 h1 h2 h3 (fun q => ?_) ?_ rfl rfl hd (k hC H ls locs hW hL hlo)
  · rw [q_0, q_lt (by omega) (by omega), q_nc hx.1 (by omega)] at q
    omega
  · rw [q_nc hx.1 (by omega), h6 _ (by omega), hv]
theorem q_ne_x (a : Nat) : (Value.ref a) ≠ vu := by unfold vu; intro h; cases h
theorem V_aloadX_0 {r : List Value} {a : Nat} (hd : decode (q_cc M) pc = .ok (.aload_n 0, 1)) (k : V D C M (pc + 1) (.ref a :: r) (.ref a :: st) z f) : V D C M pc (.ref a :: r) st z f := fun hC H ls locs hW hL hlo => lv_aload_n hC.1 hC.2.1 hd rfl (hL.at (k := 0) rfl (q_ne_x a)) (k hC H ls locs hW hL hlo)
theorem V_i2cX {x : Int} (hd : decode (q_cc M) pc = .ok (.i2c, 1)) (hx : 0 ≤ x ∧ x < 65536) (k : V D C M (pc + 1) L (vi x :: st) z f) : V D C M pc L (vi x :: st) z f := by
  intro hC H ls locs hW hL hlo
  refine lv_i2c hC.1 hC.2.1 hd ?_ (k hC H ls locs hW hL hlo)
  rw [lg_i2c_nf, lg_i2c_small (by rw [q_ti (by omega)]; omega) (by rw [q_ti (by omega)]; omega)]
theorem V_callX {M' : q_M} {idx n a : Nat} {As rest : List Value} {P : Value → q_F → Prop}
    (hd : decode (q_cc M) pc = .ok (.invokevirtual idx, 3)) (hl : Cond.methodLink (q_y M).cls idx (q_y M') ∈ q_T) (hm : q_mi M' n) (hv : q_mv M') (h0 : q_m0 M') (hz : ∀ U, q_X D U → va_O (q_y M').cls a (q_A D) U D.2.1) (hdp : q_dp M' + 1 ≤ q_dp M) (hn : As.length = n) (hwt : q_wt rest ≤ 8)
    (ok : Ok0 D M' (.ref a :: As) (N, rf, 0, 0) f P)
    (k : ∀ v f', P v f' → V D C M (pc + 3) L ((q_o v).toList ++ rest) (N, rf, 0, 0) f') : V D C M pc L (As.reverse ++ .ref a :: rest) (N, rf, 0, 0) f := by
  refine V_run (a := (.ref a :: As).toArray) (rest := rest) (M' := M') (Q := fun v z' f' => z' = (N, rf, 0, 0) ∧ P v f') (fun hC H ls locs hW hL => ?_) (fun v z' f' h => ?_)
  · have hx := hC.x
    have hcb := q_cw hC hl hm hdp
    have hre := hx
    obtain ⟨hx, hb, hml, hown, hts, hlk, hre, hnm, hK, hfr, hlo, hce, hsl⟩ := hC
    refine va_runV (Ts := q_T) (As := As) (rest := rest) (nL := q_ml M) (C := (q_y M').cls) ⟨hx, hb, hml, hown, hts⟩ (ok (c_l C)) ⟨hcb, hts _ hv.1, hts _ hv.2⟩ ⟨q_blind D _ _ _, ?_, fun U hU hWm => ⟨rfl, ?_, hK.warm hWm⟩⟩ rfl hn (q_lsz hL) rfl (lv_room hwt) hd ⟨?_, ?_⟩
    · obtain ⟨cell, h1, h2, h3, -⟩ := (hz _ (by assumption)).kept hW.old
      exact ⟨cell, h1, h2, h3⟩
    · rw [hU]; exact hW
    · rw [h0.1]; exact Nat.zero_le _
    · rw [h0.2]; exact Nat.zero_le _
  · obtain ⟨rfl, h⟩ := h
    have := k v f' h
    rw [h0.1, h0.2]
    exact this
end OLD
theorem OkC_of {D : q_D} {M : q_M} {as L0 : List Value} {N : Nat} {rf : Int → Int → Int} {f : q_F} {P : Int → q_F → Prop} {n : Nat} (hm : q_mi M n) (hre : q_re M = some .char) (hL : q_ent as (q_ml M) = L0) (hsz : (lg_sl as).length ≤ q_ml M)
    (h : ∀ C : q_C, (∀ (x : Int) (f' : q_F), (0 ≤ x ∧ x < 65536) → P x f' → q_ret D C M (vi x) (N, rf, 0, 0) f') → V D C M 0 L0 [] (N, rf, 0, 0) f) : OkI D M as (N, rf, 0, 0) f P :=
  Ok0_of hm hL hsz (fun C hC => h C (fun x f' hx hp => hC (vi x) f' ⟨.char, hre, q_char hx⟩ ⟨x, rfl, hp⟩))
theorem OkY_of {D : q_D} {M : q_M} {as L0 : List Value} {N : Nat} {rf : Int → Int → Int} {f : q_F} {P : Int → q_F → Prop} {n : Nat} (hm : q_mi M n) (hre : q_re M = some .byte) (hL : q_ent as (q_ml M) = L0) (hsz : (lg_sl as).length ≤ q_ml M)
    (h : ∀ C : q_C, (∀ (f' : q_F), P 0 f' → q_ret D C M (vi 0) (N, rf, 0, 0) f') → V D C M 0 L0 [] (N, rf, 0, 0) f) : OkI D M as (N, rf, 0, 0) f P :=
  Ok0_of hm hL hsz (fun C hC => h C (fun f' hp => hC (vi 0) f' ⟨.byte, hre, by decide +kernel⟩ ⟨0, rfl, hp⟩))
section STR
variable {D : q_D} {f : q_F} {g h : Int}
theorem fk_9 : Cond.fieldLink "java/lang/String" 9 "java/lang/String" "value" "[B" ∈ q_T := q_in 1636 (by decide +kernel) rfl
theorem fk_15 : Cond.fieldLink "java/lang/String" 15 "java/lang/String" "coder" "B" ∈ q_T := q_in 1637 (by decide +kernel) rfl
theorem fk_38 : Cond.fieldLink "java/lang/String" 38 "java/lang/String" "COMPACT_STRINGS" "Z" ∈ q_T := q_in 359 (by decide +kernel) rfl
theorem fk_1053 : Cond.fieldLink "java/lang/String" 1053 "jdk/internal/util/Preconditions" "SIOOBE_FORMATTER" "Ljava/util/function/BiFunction;" ∈ q_T := q_in 375 (by decide +kernel) rfl
theorem fk_60 : Cond.fieldLink "HiredShades$Guild" 60 "HiredShades$Guild" "MOST" "[I" ∈ q_T := q_in 442 (by decide +kernel) rfl
theorem mv_js_length : q_mv m_js_length := ⟨q_in 352 (by decide +kernel) rfl, q_in 353 (by decide +kernel) rfl⟩
theorem mv_js_coder : q_mv m_js_coder := ⟨q_in 356 (by decide +kernel) rfl, q_in 357 (by decide +kernel) rfl⟩
theorem mv_js_charAt : q_mv m_js_charAt := ⟨q_in 362 (by decide +kernel) rfl, q_in 363 (by decide +kernel) rfl⟩
theorem mv_js_isLatin1 : q_mv m_js_isLatin1 := ⟨q_in 366 (by decide +kernel) rfl, q_in 367 (by decide +kernel) rfl⟩
theorem ok_jscoder : OkI D m_js_coder [sS D] (Zg g h) f (fun x f' => x = 0 ∧ f' = f) := by
  refine OkY_of (L0 := [sS D]) mi_js_coder rfl rfl (Nat.le_of_ble_eq_true rfl) (fun C hR => ?_)
  refine V_gets d_js_coder_0 fk_38 (fun U hU => hU.compact) ?_
  refine V_if_eq 13 d_js_coder_3 (by decide) (by decide) (fun c => by omega) (fun _ => ?_)
  refine V_aloadX_0 d_js_coder_6 ?_
  refine V_getX d_js_coder_7 fk_15 (fun U hU => hU.coder) ?_
  refine V_goto 14 d_js_coder_10 (by decide) ?_
  exact V_ireturn d_js_coder_14 (hR _ ⟨rfl, rfl⟩)
theorem ok_jslatin : OkI D m_js_isLatin1 [sS D] (Zg g h) f (fun x f' => x = 1 ∧ f' = f) := by
  refine OkB_of (L0 := [sS D]) mi_js_isLatin1 rfl rfl (Nat.le_of_ble_eq_true rfl) (fun C hR => ?_)
  refine V_gets d_js_isLatin1_0 fk_38 (fun U hU => hU.compact) ?_
  refine V_if_eq 17 d_js_isLatin1_3 (by decide) (by decide) (fun c => by omega) (fun _ => ?_)
  refine V_aloadX_0 d_js_isLatin1_6 ?_
  refine V_getX d_js_isLatin1_7 fk_15 (fun U hU => hU.coder) ?_
  refine V_if_ne 17 d_js_isLatin1_10 (by decide) (by decide) (fun c => absurd rfl c) (fun _ => ?_)
  refine V_iconst 1 d_js_isLatin1_13 ?_
  refine V_goto 18 d_js_isLatin1_14 (by decide) ?_
  exact V_ireturn d_js_isLatin1_18 (hR _ _ (by decide) ⟨rfl, rfl⟩)
theorem ok_jslength : OkI D m_js_length [sS D] (Zg g h) f (fun x f' => x = 125 ∧ f' = f) := by
  refine OkI_of (L0 := [sS D]) mi_js_length rfl rfl (Nat.le_of_ble_eq_true rfl) (fun C hR => ?_)
  refine V_aloadX_0 d_js_length_0 ?_
  refine V_getX d_js_length_1 fk_9 (fun U hU => hU.value) ?_
  refine V_alenX d_js_length_4 (fun U hU => hU.bytes) ?_
  refine V_aloadX_0 d_js_length_5 ?_
  refine V_callX (As := []) d_js_length_6 ml_js_335 mi_js_coder mv_js_coder ⟨rfl, rfl⟩ (fun U hU => hU.obj) (by decide) rfl (Nat.le_of_ble_eq_true rfl) ok_jscoder ?_
  rintro v f2 ⟨x, rfl, rfl, rfl⟩
  refine V_ishr d_js_length_9 ?_
  refine V_ireturn d_js_length_10 (hR _ _ ?_)
  exact ⟨by decide +kernel, rfl⟩
theorem ok_jpcheck {x n : Int} {a : Nat} (hx : 0 ≤ x ∧ x < n) (hn : n < 2147483648) : OkI D m_jp_checkIndex [vi x, vi n, .ref a] (Zg g h) f (fun y f' => y = x ∧ f' = f) := by
  refine OkI_of (L0 := [vi x, vi n, .ref a]) mi_jp_checkIndex rfl rfl (Nat.le_of_ble_eq_true rfl) (fun C hR => ?_)
  refine V_iload_0 d_jp_checkIndex_0 ?_
  refine V_if_lt 9 d_jp_checkIndex_1 (by decide) (by omega) (fun c => by omega) (fun _ => ?_)
  refine V_iload_0 d_jp_checkIndex_4 ?_
  refine V_iload_1 d_jp_checkIndex_5 ?_
  refine V_icmp_lt 16 d_jp_checkIndex_6 (by decide) (by omega) (by omega) (fun _ => ?_) (fun c => by omega)
  refine V_iload_0 d_jp_checkIndex_16 ?_
  exact V_ireturn d_jp_checkIndex_17 (hR _ _ ⟨rfl, rfl⟩)
theorem ok_jpcheck0 {x n : Int} (hx : 0 ≤ x ∧ x < n) (hn : n < 2147483648) : OkI D m_jp_checkIndex [vi x, vi n, .null] (Zg g h) f (fun y f' => y = x ∧ f' = f) := by
  refine OkI_of (L0 := [vi x, vi n, .null]) mi_jp_checkIndex rfl rfl (Nat.le_of_ble_eq_true rfl) (fun C hR => ?_)
  refine V_iload_0 d_jp_checkIndex_0 ?_
  refine V_if_lt 9 d_jp_checkIndex_1 (by decide) (by omega) (fun c => by omega) (fun _ => ?_)
  refine V_iload_0 d_jp_checkIndex_4 ?_
  refine V_iload_1 d_jp_checkIndex_5 ?_
  refine V_icmp_lt 16 d_jp_checkIndex_6 (by decide) (by omega) (by omega) (fun _ => ?_) (fun c => by omega)
  refine V_iload_0 d_jp_checkIndex_16 ?_
  exact V_ireturn d_jp_checkIndex_17 (hR _ _ ⟨rfl, rfl⟩)
theorem ok_jscheck {x n : Int} (hx : 0 ≤ x ∧ x < n) (hn : n < 2147483648) : OkV D m_js_checkIndex [vi x, vi n] (Zg g h) f (fun f' => f' = f) := by
  refine OkV_of (L0 := [vi x, vi n]) mi_js_checkIndex rfl rfl (Nat.le_of_ble_eq_true rfl) (fun C hR => ?_)
  refine V_iload_0 d_js_checkIndex_0 ?_
  refine V_iload_1 d_js_checkIndex_1 ?_
  refine V_getsQ d_js_checkIndex_2 fk_1053 (fun U hU => hU.form) ?_ (fun a => ?_)
  · refine V_csI3 d_js_checkIndex_5 ml_js_1059 ms_jp_checkIndex (by decide) (Nat.le_of_ble_eq_true rfl) (ok_jpcheck0 hx hn) ?_
    rintro y f2 ⟨rfl, rfl⟩
    refine V_pop d_js_checkIndex_8 rfl ?_
    exact V_return d_js_checkIndex_9 (hR _ rfl)
  · refine V_csI3 d_js_checkIndex_5 ml_js_1059 ms_jp_checkIndex (by decide) (Nat.le_of_ble_eq_true rfl) (ok_jpcheck hx hn) ?_
    rintro y f2 ⟨rfl, rfl⟩
    refine V_pop d_js_checkIndex_8 rfl ?_
    exact V_return d_js_checkIndex_9 (hR _ rfl)
theorem ok_jlchar {x c : Int} (hx : 0 ≤ x ∧ x < 125) (hc : q_wb.getD x.toNat 0 = Int32.ofInt c) (hcr : 0 ≤ c ∧ c < 256) : OkI D m_jl_charAt [sB D, vi x] (Zg g h) f (fun y f' => y = c ∧ f' = f) := by
  refine OkC_of (L0 := [sB D, vi x]) mi_jl_charAt rfl rfl (Nat.le_of_ble_eq_true rfl) (fun C hR => ?_)
  refine V_iload_1 d_jl_charAt_0 ?_
  refine V_aloadX_0 d_jl_charAt_1 ?_
  refine V_alenX d_jl_charAt_2 (fun U hU => hU.bytes) ?_
  refine V_csV2 d_jl_charAt_3 ml_jl_9 ms_js_checkIndex (by decide) (Nat.le_of_ble_eq_true rfl) (ok_jscheck hx (by decide)) ?_
  rintro f2 rfl
  refine V_aloadX_0 d_jl_charAt_6 ?_
  refine V_iload_1 d_jl_charAt_7 ?_
  refine V_baldX (v := vi c) d_jl_charAt_8 (fun U hU => hU.bytes) hx (by decide) (by show Value.int _ = _; rw [hc]; rfl) ?_
  refine V_sipush 255 d_jl_charAt_9 (by decide) ?_
  refine V_iand d_jl_charAt_12 ?_
  have e : q_and c 255 = c := by
    obtain ⟨m, rfl⟩ := Int.eq_ofNat_of_zero_le hcr.1
    have : ∀ m : Nat, m < 256 → q_and m 255 = m := by decide +kernel
    exact this m (by omega)
  rw [e]
  refine V_i2cX d_jl_charAt_13 (by omega) ?_
  exact V_ireturn d_jl_charAt_14 (hR _ _ (by omega) ⟨rfl, rfl⟩)
theorem ok_jschar {x c : Int} (hx : 0 ≤ x ∧ x < 125) (hc : q_wb.getD x.toNat 0 = Int32.ofInt c) (hcr : 0 ≤ c ∧ c < 256) : OkI D m_js_charAt [sS D, vi x] (Zg g h) f (fun y f' => y = c ∧ f' = f) := by
  refine OkC_of (L0 := [sS D, vi x]) mi_js_charAt rfl rfl (Nat.le_of_ble_eq_true rfl) (fun C hR => ?_)
  refine V_aloadX_0 d_js_charAt_0 ?_
  refine V_callX (As := []) d_js_charAt_1 ml_js_492 mi_js_isLatin1 mv_js_isLatin1 ⟨rfl, rfl⟩ (fun U hU => hU.obj) (by decide) rfl (Nat.le_of_ble_eq_true rfl) ok_jslatin ?_
  rintro v f2 ⟨y, rfl, rfl, rfl⟩
  refine V_if_eq 16 d_js_charAt_4 (by decide) (by decide) (fun c => by omega) (fun _ => ?_)
  refine V_aloadX_0 d_js_charAt_7 ?_
  refine V_getX d_js_charAt_8 fk_9 (fun U hU => hU.value) ?_
  refine V_iload_1 d_js_charAt_11 ?_
  refine V_csI2 d_js_charAt_12 ml_js_495 ms_jl_charAt (by decide) (Nat.le_of_ble_eq_true rfl) (ok_jlchar hx hc hcr) ?_
  rintro y f2 ⟨rfl, rfl⟩
  exact V_ireturn d_js_charAt_15 (hR _ _ (by omega) ⟨rfl, rfl⟩)
end STR
