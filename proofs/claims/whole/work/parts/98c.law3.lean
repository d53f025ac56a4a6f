/-! the law: from its entry to its loop -/
def rS : Int → Int → Int := rI_mo (rI_hs (fun _ _ => -1))
def fS : q_F := fI_mo (fI_hs (fun _ _ => 0))
def A0 : q_As := fun n _ k => if n = 13 then (if k = 2 then -1 else if k = 4 then 1 else 0) else 0
theorem A0z {n : Nat} (i k : Int) (h : n ≠ 13) : A0 n i k = 0 := by unfold A0; rw [if_neg h]
theorem A0_W : Wf A0 := by
  refine ⟨⟨by decide +kernel, ?_, ?_, ?_, ?_, ?_, ?_, ?_⟩, ⟨?_, ?_, by decide +kernel, ?_⟩, by decide +kernel, ?_, by decide +kernel, by decide +kernel, by decide +kernel, by decide +kernel, ?_⟩
  · intro s h0 h1; rw [A0z _ _ (by decide)] at h1; omega
  · intro a b h0 h1; rw [A0z _ _ (by decide)] at h1; omega
  · intro h s h0 h1; rw [A0z _ _ (by decide)] at h1; omega
  · intro h h0 h1; rw [A0z _ _ (by decide)] at h1; omega
  · intro i h0 h1; rw [A0z _ _ (by decide)] at h1; omega
  · intro i j h0 h1 h2; rw [A0z _ _ (by decide)] at h2; omega
  · intro s h0 h1; rw [A0z _ _ (by decide)] at h1; omega
  · intro s h0 h1; rw [A0z _ _ (by decide)] at h1; omega
  · intro s t h0 h1; rw [A0z _ _ (by decide)] at h1; omega
  · intro n h0 h1; rw [show A0 13 0 0 = 0 by decide +kernel] at h1; omega
  · intro k h0 h1; rw [show A0 13 0 3 = 0 by decide +kernel] at h1; omega
  · intro k h0 h1; rw [show A0 13 0 5 = 0 by decide +kernel] at h1; omega
theorem fS_C : Cst 51 fS A0 := by
  refine ⟨Or.inl rfl, ⟨?_, by decide +kernel, ?_, ?_, ?_, ?_, ?_, ?_, ?_, ?_, ?_, ?_⟩, ⟨?_, by decide +kernel, by decide +kernel, ?_⟩, by decide +kernel, ?_, by decide +kernel, by decide +kernel, by decide +kernel, by decide +kernel, ?_⟩
  · intro k h0 h1
    rw [A0z _ _ (by decide)]
    rcases (show k = 0 ∨ k = 1 ∨ k = 2 ∨ k = 3 ∨ k = 4 ∨ k = 5 by omega) with rfl | rfl | rfl | rfl | rfl | rfl <;> decide +kernel
  · intro i w k _ _ h0 h1; rw [A0z _ _ (by decide)] at h1; omega
  · intro t w h0 h1; rw [A0z _ _ (by decide)] at h1; omega
  · intro p t h0 h1; rw [A0z _ _ (by decide)] at h1; omega
  · intro h t h0 h1; rw [A0z _ _ (by decide)] at h1; omega
  · intro h h0 h1; rw [A0z _ _ (by decide)] at h1; omega
  · intro a b h0 h1; rw [A0z _ _ (by decide)] at h1; omega
  · intro s k h0 h1; rw [A0z _ _ (by decide)] at h1; omega
  · intro h s h0 h1; rw [A0z _ _ (by decide)] at h1; omega
  · intro s h0 h1; rw [A0z _ _ (by decide)] at h1; omega
  · intro i h0 h1; rw [A0z _ _ (by decide)] at h1; omega
  · intro s h0 h1; rw [A0z _ _ (by decide)] at h1; omega
  · intro n s h0 h1; rw [show A0 13 0 0 = 0 by decide +kernel] at h1; omega
  · intro k h0 h1; rw [show A0 13 0 3 = 0 by decide +kernel] at h1; omega
  · intro k h0 h1; rw [show A0 13 0 5 = 0 by decide +kernel] at h1; omega
theorem fS_M : Mst fS A0 := by
  refine ⟨⟨by decide +kernel, by decide +kernel, ?_, ?_, ?_, ?_, ?_, ?_, ?_, ?_, ?_⟩, ⟨?_, by decide +kernel, by decide +kernel, ?_⟩, by decide +kernel, ?_, by decide +kernel, by decide +kernel, by decide +kernel, by decide +kernel, ?_⟩
  · intro i w _ _ h0 h1; rw [A0z _ _ (by decide)] at h1; omega
  · intro t w h0 h1; rw [A0z _ _ (by decide)] at h1; omega
  · intro p t h0 h1; rw [A0z _ _ (by decide)] at h1; omega
  · intro h t h0 h1; rw [A0z _ _ (by decide)] at h1; omega
  · intro h h0 h1; rw [A0z _ _ (by decide)] at h1; omega
  · intro a b h0 h1; rw [A0z _ _ (by decide)] at h1; omega
  · intro s k h0 h1; rw [A0z _ _ (by decide)] at h1; omega
  · intro h s h0 h1; rw [A0z _ _ (by decide)] at h1; omega
  · intro s h0 h1; rw [A0z _ _ (by decide)] at h1; omega
  · intro s h0 h1; rw [A0z _ _ (by decide)] at h1; omega
  · intro n s h0 h1; rw [show A0 13 0 0 = 0 by decide +kernel] at h1; omega
  · intro k h0 h1; rw [show A0 13 0 3 = 0 by decide +kernel] at h1; omega
  · intro k h0 h1; rw [show A0 13 0 5 = 0 by decide +kernel] at h1; omega
theorem fS_W : mW fS := by
  unfold mW
  decide +kernel
theorem LI_start : LI 51 fS A0 := ⟨fS_C, fS_M, A0_W, fS_W⟩
def q_len (j : Int) : Nat := if 20 ≤ q_k j then (q_n j).toNat else match q_cl[q_k j]? with
  | some c => c.2.2
  | none => 0
theorem rS_ok : ∀ j : Nat, j < 274 → (q_k j = 20 ∨ q_k j = 21 ∨ q_k j = 22) ∨ ((20 ≤ q_k j ∨ q_k j < 9) ∧ ∀ k : Nat, k < q_len j → q_t j k < 2 ∨ rS j k = RF 51 (-1) j k) := by decide +kernel
section LAW3
variable {D : q_D} {C : q_C} {nm : String} {b Ls : Nat} {xs : Nat → Int32}
theorem rS_val {f : q_F} {j k : Nat} (hj : j < 274) (h1 : ∀ c : vw_C, q_cl[q_k j]? = some c → k < c.2.2) (h2 : 20 ≤ q_k j → k < (q_n j).toNat) : q_val D (q_t j k) (f j k) (rS j k) = q_val D (q_t j k) (f j k) (RF 51 (-1) j k) := by
  have hlt : ∀ r : Int, q_t j k < 2 → q_val D (q_t j k) (f j k) (rS j k) = q_val D (q_t j k) (f j k) r := by
    intro r h
    rcases (show q_t j k = 0 ∨ q_t j k = 1 by omega) with e | e <;> rw [e] <;> rfl
  rcases rS_ok j hj with h | ⟨hc, h⟩
  · refine hlt _ ?_
    unfold q_t
    rcases h with h | h | h <;> rw [h] <;> first | exact (show (0 : Nat) < 2 by decide) | exact (show (1 : Nat) < 2 by decide)
  · have hk : k < q_len j := by
      unfold q_len
      split
      · next h20 => exact h2 h20
      · next h20 =>
        have h9 : q_k j < 9 := by omega
        have hs : q_cl[q_k j]? = some (q_cl[q_k j]'(by exact h9)) := List.getElem?_eq_getElem _
        rw [hs]
        exact h1 _ hs
    rcases h k hk with h | h
    · exact hlt _ h
    · rw [h]
theorem law_in (hX : q_sc D C b Ls xs) (hLs : Ls ≤ 3072) (hE : ∀ (i g h : Int) (f : q_F), V D C (m_law nm) 1180 [.ref b, vr D 0, vr D 219, vi i] [] (274, RF g h, 274, 16415) f) : V D C (m_law nm) 0 [.ref b, vu, vu, vu] [] (0, fun _ _ => -1, 0, 0) (fun _ _ => 0) := by
  have hF0 : fresh 0 (fun _ _ => -1) (fun _ _ => 0) := fun _ _ _ => ⟨rfl, rfl⟩
  refine I_new (ci := 7) (X := R_hs) (Tb := F_hs) (n := 10) (r := 0) t_hs 1 1 10 d_lw_law_0 (show Cond.classLink "HiredShadesLaw" 7 R_hs ∈ q_T from q_in 17 (by decide +kernel) rfl) (q_in 18 (by decide +kernel) rfl) (q_in 1 (by decide +kernel) rfl) (by decide +kernel) rfl t_hs_ok (by decide +kernel) rfl ⟨rfl, rfl, rfl⟩ hF0 ⟨Nat.le_of_ble_eq_true rfl, Nat.le_of_ble_eq_true rfl⟩ ?_
  have hF1 := hF0.mono 1 (by decide)
  refine V_dup d_lw_law_3 rfl ?_
  refine I_cI (M' := m_hs_init) (q := 0) (As := []) (rf' := rI_hs (fun _ _ => -1)) (f' := fI_hs (fun _ _ => 0)) 219 219 6135 d_lw_law_4 ml_lw_9 mi_hs_init mv_hs_init ⟨rfl, rfl⟩ (Nat.le_of_ble_eq_true rfl) rfl (Nat.le_of_ble_eq_true rfl) ⟨rfl, rfl, Nat.le_of_ble_eq_true rfl, Nat.le_of_ble_eq_true rfl⟩ (ok_hs_init hF1) ?_
  have hF2 := fr_hs hF1
  refine V_astore_1 d_lw_law_7 rfl ?_
  refine I_new (ci := 8) (X := R_mo) (Tb := F_mo) (n := 76) (r := 219) t_mo 220 220 6211 d_lw_law_8 (show Cond.classLink "HiredShadesLaw" 10 R_mo ∈ q_T from q_in 937 (by decide +kernel) rfl) (q_in 938 (by decide +kernel) rfl) (q_in 9 (by decide +kernel) rfl) (by decide +kernel) rfl t_mo_ok (by decide +kernel) rfl ⟨rfl, rfl, rfl⟩ hF2 ⟨Nat.le_of_ble_eq_true rfl, Nat.le_of_ble_eq_true rfl⟩ ?_
  have hF3 := hF2.mono 220 (by decide)
  refine V_dup d_lw_law_11 rfl ?_
  refine I_cI (M' := m_mo_init) (q := 219) (As := []) (rf' := rS) (f' := fS) 274 274 16415 d_lw_law_12 ml_lw_12 mi_mo_init mv_mo_init ⟨rfl, rfl⟩ (Nat.le_of_ble_eq_true rfl) rfl (Nat.le_of_ble_eq_true rfl) ⟨rfl, rfl, Nat.le_of_ble_eq_true rfl, Nat.le_of_ble_eq_true rfl⟩ (ok_mo_init hF3) ?_
  refine V_astore_2 d_lw_law_15 rfl ?_
  refine V_iconst 0 d_lw_law_16 ?_
  refine V_istore_3 d_lw_law_17 rfl ?_
  refine V_cg (rf' := RF 51 (-1)) (f' := fS) (fun j k hj h1 h2 => rS_val hj h1 h2) ?_
  exact law_loop hX hLs ⟨by decide, by decide⟩ hE Ls 0 51 (-1) fS A0 (by decide) (by decide) (by omega) LI_start
end LAW3
