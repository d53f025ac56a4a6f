/-! the law: what stands between two calls -/
section LAW1
variable {D : q_D} {C : q_C} {M : q_M} {pc N cs ss : Nat} {L st : List Value} {rf : Int → Int → Int} {f f' f1 f2 : q_F} {A A' : q_As} {g h : Int}
theorem Cst.hi (hS : Cst g f A) (hF : Wf A) (hh : q_hi f f') : Cst g f' A := by
  obtain ⟨hg, hG, hH, hT⟩ := hS
  have b := q_G51 hg
  have b2 : g + 84 ≤ 219 := by rcases hg with rfl | rfl <;> decide
  obtain ⟨t1, t2, t3, t4, t5, t6, t7⟩ := hT
  refine ⟨hg, hG.mono (gEq.refl A) hF.1 (fun j k _ _ => hh j k (by omega)), hH.mono rfl rfl rfl rfl (fun j k _ _ => hh j k (by omega)), ?_, fun k k0 k1 => ?_, ?_, ?_, ?_, ?_, fun k k0 k1 => ?_⟩
  · rw [hh _ _ (by omega)]; exact t1
  · rw [hh _ _ (by omega)]; exact t2 k k0 k1
  · rw [hh _ _ (by omega)]; exact t3
  · rw [hh _ _ (by omega)]; exact t4
  · rw [hh _ _ (by omega)]; exact t5
  · rw [hh _ _ (by omega)]; exact t6
  · rw [hh _ _ (by omega)]; exact t7 k k0 k1
theorem Mst.lo (hS : Mst f A) (hF : Wf A) (hh : q_lo f f') : Mst f' A := by
  obtain ⟨hG, hH, hT⟩ := hS
  obtain ⟨t1, t2, t3, t4, t5, t6, t7⟩ := hT
  refine ⟨hG.mono (gEq.refl A) (fun j k hm => hh j k (by unfold q_mg at hm; omega)) hF.1, hH.mono rfl rfl rfl rfl (fun k => hh _ _ (by decide)) (fun k => hh _ _ (by decide)) (hh _ _ (by decide)) (hh _ _ (by decide)), ?_, fun k k0 k1 => ?_, ?_, ?_, ?_, ?_, fun k k0 k1 => ?_⟩
  · rw [hh _ _ (by omega)]; exact t1
  · rw [hh _ _ (by omega)]; exact t2 k k0 k1
  · rw [hh _ _ (by omega)]; exact t3
  · rw [hh _ _ (by omega)]; exact t4
  · rw [hh _ _ (by omega)]; exact t5
  · rw [hh _ _ (by omega)]; exact t6
  · rw [hh _ _ (by omega)]; exact t7 k k0 k1
theorem mW.lo (hw : mW f) (hh : q_lo f f') : mW f' := fun i hi k hk => by rw [hh _ _ (by omega)]; exact hw i hi k hk
theorem mW.hi (hw : mW f) (hh : q_hi f f') : mW f' := fun i hi k hk => by rw [hh _ _ (by omega)]; exact hw i hi k hk
/-- both sides hold one state -/
def LI (g : Int) (f : q_F) (A : q_As) : Prop := Cst g f A ∧ Mst f A ∧ Wf A ∧ mW f
theorem LI.step (hL : LI g f A) {g' : Int} (hW : Wf A') (h1 : Cst g' f1 A') (l1 : q_lo f f1) (h2 : Mst f2 A') (l2 : q_hi f1 f2) : LI g' f2 A' := ⟨h1.hi hW l2, h2, hW, (hL.2.2.2.lo l1).hi l2⟩
theorem LI.m (hL : LI g f A) (l1 : q_lo f f1) : Mst f1 A := hL.2.1.lo hL.2.2.1 l1
theorem W_drawn (hF : Wf A) {x : Int} (hx : 0 ≤ x ∧ x < 2147483648) : Wf (A_drawn A x) := by
  have hA : ∀ c i j, c ≠ 13 → A_drawn A x c i j = A c i j := fun c i j hc => by unfold A_drawn; rw [if_neg (fun e => hc e.1)]
  have hE : ∀ c, c ≠ 13 → A_drawn A x c = A c := fun c hc => by funext i j; exact hA c i j hc
  have hB : ∀ j, j ≠ 4 → A_drawn A x 13 0 j = A 13 0 j := fun j hj => by unfold A_drawn; rw [if_neg (fun e => hj e.2.2)]
  have hg : gEq A (A_drawn A x) := ⟨hE 0 (by decide), hE 1 (by decide), hE 2 (by decide), hE 3 (by decide), hE 4 (by decide), hE 5 (by decide), hE 6 (by decide), hE 7 (by decide), hE 8 (by decide), hE 9 (by decide), hE 10 (by decide), hE 16 (by decide)⟩
  obtain ⟨h1, h2, t1, t2, t3, t4, t5, t6, t7⟩ := hF
  refine ⟨h1.mono hg, h2.mono hg (hE 11 (by decide)) (hE 12 (by decide)) (hB 0 (by decide)), ?_, fun k k0 k1 => ?_, ?_, ?_, ?_, ?_, fun k k0 k1 => ?_⟩
  · rw [hB 3 (by decide)]; exact t1
  · rw [hB 3 (by decide)] at k1; rw [hA 14 k 0 (by decide)]; exact t2 k k0 k1
  · rw [hB 1 (by decide)]; exact t3
  · rw [hB 2 (by decide)]; exact t4
  · unfold A_drawn; rw [if_pos ⟨rfl, rfl, rfl⟩]; exact hx
  · rw [hB 5 (by decide)]; exact t6
  · rw [hB 5 (by decide)] at k1; rw [hA 15 k 0 (by decide)]; exact t7 k k0 k1
def A_seed (A : q_As) (x : Int) : q_As := if x < 0 then A else A_drawn A x
def S_seed (x : Int) : Int := if x < 0 then 0 else 1
theorem W_seed (hF : Wf A) {x : Int} (hx : -2147483648 ≤ x ∧ x < 2147483648) : Wf (A_seed A x) := by
  unfold A_seed; split
  · exact hF
  · exact W_drawn hF (by omega)
theorem W_days (hF : Wf A) (n w : Int) : Wf (A_days A n w) := by
  unfold A_days; split
  · exact W_drawn hF (dyN_rg hF _ _ _ _ hF.2.2.2.2.2.2.1)
  · exact hF
theorem hsU_feed (hS : Cst g f A) (hF : Wf A) {a b c d e : Int} : OkI D m_hs_feed [vr D 0, vi a, vi b, vi c, vi d, vi e] (Zg g h) f (fun y f' => y = S_feed A ∧ Cst g f' (A_feed A a b c d e) ∧ q_lo f f') := hs_feed hS hF
theorem hsU_end (hS : Cst g f A) (hF : Wf A) {n : Int} (hn : -2147483648 ≤ n ∧ n < 2147483648) : OkI D m_hs_end [vr D 0, vi n] (Zg g h) f (fun y f' => y = S_end A n ∧ Cst g f' (A_end A n) ∧ q_lo f f') := hs_end hS hF hn
theorem hsU_fault (hS : Cst g f A) (hF : Wf A) {w : Int} (hw : -2147483648 ≤ w ∧ w < 2147483648) : OkI D m_hs_fault [vr D 0, vi w] (Zg g h) f (fun y f' => y = S_fault A w ∧ Cst g f' (A) ∧ q_lo f f') := OkI.mn (hs_fault hS hF hw) (fun y f' hy => by obtain ⟨e1, e2⟩ := hy; rw [e2]; exact ⟨e1, hS, q_lo.refl f⟩)
theorem hsU_has (hS : Cst g f A) (hF : Wf A) {w : Int} (hw : -2147483648 ≤ w ∧ w < 2147483648) : OkI D m_hs_has [vr D 0, vi w] (Zg g h) f (fun y f' => y = S_has A w ∧ Cst g f' (A) ∧ q_lo f f') := OkI.mn (hs_has hS hF hw) (fun y f' hy => by obtain ⟨e1, e2⟩ := hy; rw [e2]; exact ⟨e1, hS, q_lo.refl f⟩)
theorem hsU_letter (hS : Cst g f A) (hF : Wf A) {i w k : Int} (hi : -2147483648 ≤ i ∧ i < 2147483648) (hw : -2147483648 ≤ w ∧ w < 2147483648) (hk : -2147483648 ≤ k ∧ k < 2147483648) : OkI D m_hs_letter [vr D 0, vi i, vi w, vi k] (Zg g h) f (fun y f' => y = S_letter A i w k ∧ Cst g f' (A) ∧ q_lo f f') := OkI.mn (hs_letter hS hF hi hw hk) (fun y f' hy => by obtain ⟨e1, e2⟩ := hy; rw [e2]; exact ⟨e1, hS, q_lo.refl f⟩)
theorem hsU_trait (hS : Cst g f A) (hF : Wf A) {t who w : Int} (ht : -2147483648 ≤ t ∧ t < 2147483648) (hwho : -2147483648 ≤ who ∧ who < 2147483648) (hw : -2147483648 ≤ w ∧ w < 2147483648) : OkI D m_hs_trait [vr D 0, vi t, vi who, vi w] (Zg g h) f (fun y f' => y = S_trait A t who w ∧ Cst g f' (A) ∧ q_lo f f') := OkI.mn (hs_trait hS hF ht hwho hw) (fun y f' hy => by obtain ⟨e1, e2⟩ := hy; rw [e2]; exact ⟨e1, hS, q_lo.refl f⟩)
theorem hsU_seen (hS : Cst g f A) (hF : Wf A) {s w : Int} (hs : -2147483648 ≤ s ∧ s < 2147483648) (hw : -2147483648 ≤ w ∧ w < 2147483648) : OkI D m_hs_seen [vr D 0, vi s, vi w] (Zg g h) f (fun y f' => y = S_seen A s w ∧ Cst g f' (A) ∧ q_lo f f') := OkI.mn (hs_seen hS hF hs hw) (fun y f' hy => by obtain ⟨e1, e2⟩ := hy; rw [e2]; exact ⟨e1, hS, q_lo.refl f⟩)
theorem hsU_far (hS : Cst g f A) (hF : Wf A) {a b : Int} (ha : -2147483648 ≤ a ∧ a < 2147483648) (hb : -2147483648 ≤ b ∧ b < 2147483648) : OkI D m_hs_far [vr D 0, vi a, vi b] (Zg g h) f (fun y f' => y = S_far A a b ∧ Cst g f' (A) ∧ q_lo f f') := OkI.mn (hs_far hS hF ha hb) (fun y f' hy => by obtain ⟨e1, e2⟩ := hy; rw [e2]; exact ⟨e1, hS, q_lo.refl f⟩)
theorem hsU_pass (hS : Cst g f A) (hF : Wf A) {a b : Int} (ha : -2147483648 ≤ a ∧ a < 2147483648) (hb : -2147483648 ≤ b ∧ b < 2147483648) : OkI D m_hs_pass [vr D 0, vi a, vi b] (Zg g h) f (fun y f' => y = S_pass A a b ∧ Cst g f' (A) ∧ q_lo f f') := OkI.mn (hs_pass hS hF ha hb) (fun y f' hy => by obtain ⟨e1, e2⟩ := hy; rw [e2]; exact ⟨e1, hS, q_lo.refl f⟩)
theorem hsU_price (hS : Cst g f A) (hF : Wf A) {a b : Int} (ha : -2147483648 ≤ a ∧ a < 2147483648) (hb : -2147483648 ≤ b ∧ b < 2147483648) : OkI D m_hs_price [vr D 0, vi a, vi b] (Zg g h) f (fun y f' => y = S_price A a b ∧ Cst g f' (A) ∧ q_lo f f') := OkI.mn (hs_price hS hF ha hb) (fun y f' hy => by obtain ⟨e1, e2⟩ := hy; rw [e2]; exact ⟨e1, hS, q_lo.refl f⟩)
theorem hsU_best (hS : Cst g f A) (hF : Wf A) {s w l : Int} (hs : -2147483648 ≤ s ∧ s < 2147483648) (hw : w = 0 ∨ w = 1) (hl : -2147483648 ≤ l ∧ l < 2147483648) : OkI D m_hs_best [vr D 0, vi s, vi w, vi l] (Zg g h) f (fun y f' => y = S_best A s w l ∧ Cst g f' (A) ∧ q_lo f f') := OkI.mn (hs_best hS hF hs hw hl) (fun y f' hy => by obtain ⟨e1, e2⟩ := hy; rw [e2]; exact ⟨e1, hS, q_lo.refl f⟩)
theorem hsU_whose (hS : Cst g f A) (hF : Wf A) {s sh : Int} (hs : -2147483648 ≤ s ∧ s < 2147483648) (hh : -2147483648 ≤ sh ∧ sh < 2147483648) : OkI D m_hs_whose [vr D 0, vi s, vi sh] (Zg g h) f (fun y f' => y = S_whose A s sh ∧ Cst g f' (A) ∧ q_lo f f') := OkI.mn (hs_whose hS hF hs hh) (fun y f' hy => by obtain ⟨e1, e2⟩ := hy; rw [e2]; exact ⟨e1, hS, q_lo.refl f⟩)
theorem hsU_canBe (hS : Cst g f A) (hF : Wf A) {a b : Int} (ha : -2147483648 ≤ a ∧ a < 2147483648) (hb : -2147483648 ≤ b ∧ b < 2147483648) : OkI D m_hs_canBe [vr D 0, vi a, vi b] (Zg g h) f (fun y f' => y = S_canBe A a b ∧ Cst g f' (A) ∧ q_lo f f') := OkI.mn (hs_canBe hS hF ha hb) (fun y f' hy => by obtain ⟨e1, e2⟩ := hy; rw [e2]; exact ⟨e1, hS, q_lo.refl f⟩)
theorem hsU_chain (hS : Cst g f A) (hF : Wf A) {p k : Int} (hp : -2147483648 ≤ p ∧ p < 2147483648) (hk : -2147483648 ≤ k ∧ k < 2147483648) : OkI D m_hs_chain [vr D 0, vi p, vi k] (Zg g h) f (fun y f' => y = S_chain A p k ∧ Cst g f' (A) ∧ q_lo f f') := OkI.mn (hs_chain hS hF hp hk) (fun y f' hy => ⟨hy.1, hS.scr hF (fun j k hj => hy.2 j k (by omega)), fun j k hj => hy.2 j k (by omega)⟩)
theorem hsU_shades (hS : Cst g f A) (hF : Wf A) {p : Int} (hp : -2147483648 ≤ p ∧ p < 2147483648) : OkI D m_hs_shades [vr D 0, vi p] (Zg g h) f (fun y f' => y = S_shades A p ∧ Cst g f' (A) ∧ q_lo f f') := OkI.mn (hs_shades hS hF hp) (fun y f' hy => ⟨hy.1, hS.scr hF (fun j k hj => hy.2 j k (by omega)), fun j k hj => hy.2 j k (by omega)⟩)
theorem hsU_must (hS : Cst g f A) (hF : Wf A) {s : Int} (hs : -2147483648 ≤ s ∧ s < 2147483648) : OkI D m_hs_must [vr D 0, vi s] (Zg g h) f (fun y f' => y = S_must A s ∧ Cst g f' (A) ∧ q_lo f f') := OkI.mn (hs_must hS hF hs) (fun y f' hy => ⟨hy.1, hS.scr hF (fun j k hj => hy.2 j k (by omega)), fun j k hj => hy.2 j k (by omega)⟩)
theorem hsU_clash (hS : Cst g f A) (hF : Wf A) {k : Int} (hk : -2147483648 ≤ k ∧ k < 2147483648) : OkI D m_hs_clash [vr D 0, vi k] (Zg g h) f (fun y f' => y = S_clash A k ∧ Cst g f' (A) ∧ q_lo f f') := OkI.mn (hs_clash hS hF hk) (fun y f' hy => by obtain ⟨e1, e2⟩ := hy; rw [e2]; exact ⟨e1, hS, q_lo.refl f⟩)
theorem hsU_could (hS : Cst g f A) (hF : Wf A) {p t w : Int} (hp : -2147483648 ≤ p ∧ p < 2147483648) (ht : -2147483648 ≤ t ∧ t < 2147483648) (hw : w = 0 ∨ w = 1) : OkI D m_hs_could [vr D 0, vi p, vi t, vi w] (Zg g h) f (fun y f' => y = S_could A p t w ∧ Cst g f' (A) ∧ q_lo f f') := OkI.mn (hs_could hS hF hp ht hw) (fun y f' hy => by obtain ⟨e1, e2⟩ := hy; rw [e2]; exact ⟨e1, hS, q_lo.refl f⟩)
theorem hsU_ways (hS : Cst g f A) (hF : Wf A) {l : Int} (hl : -2147483648 ≤ l ∧ l < 2147483648) : OkI D m_hs_ways [vr D 0, vi l] (Zg g h) f (fun y f' => y = S_ways A l ∧ Cst g f' (A) ∧ q_lo f f') := OkI.mn (hs_ways hS hF hl) (fun y f' hy => ⟨hy.1, hS.scr hF (fun j k hj => hy.2 j k (by omega)), fun j k hj => hy.2 j k (by omega)⟩)
theorem hsU_hire (hS : Cst g f A) (hF : Wf A) {s sh : Int} (hs : -2147483648 ≤ s ∧ s < 2147483648) (hh : -2147483648 ≤ sh ∧ sh < 2147483648) : OkI D m_hs_hire [vr D 0, vi s, vi sh] (Zg g h) f (fun y f' => y = S_hire A s sh ∧ Cst g f' (A_hire A s sh) ∧ q_lo f f') := hs_hire hS hF hs hh
theorem hsU_undo (hS : Cst g f A) (hF : Wf A) : OkI D m_hs_undo [vr D 0] (Zg g h) f (fun y f' => y = S_undo A ∧ Cst g f' (A_undo A) ∧ q_lo f f') := hs_undo hS hF
theorem hsU_crew (hS : Cst g f A) (hF : Wf A) {x l k : Int} (hx : -2147483648 ≤ x ∧ x < 2147483648) (hl : -2147483648 ≤ l ∧ l < 2147483648) (hk : -2147483648 ≤ k ∧ k < 2147483648) : OkI D m_hs_crew [vr D 0, vi x, vi l, vi k] (Zg g h) f (fun y f' => y = S_crew A x l k ∧ Cst g f' (A) ∧ q_lo f f') := OkI.mn (hs_crew hS hF hx hl hk) (fun y f' hy => ⟨hy.1, hS.scr hF (fun j k hj => hy.2 j k (by omega)), fun j k hj => hy.2 j k (by omega)⟩)
theorem hsU_take (hS : Cst g f A) (hF : Wf A) {x l : Int} (hx : -2147483648 ≤ x ∧ x < 2147483648) (hl : -2147483648 ≤ l ∧ l < 2147483648) : OkI D m_hs_take [vr D 0, vi x, vi l] (Zg g h) f (fun y f' => y = S_take A x l ∧ Cst g f' (A_take A x l) ∧ q_lo f f') := hs_take hS hF hx hl
theorem hsU_crowd (hS : Cst g f A) (hF : Wf A) {p t n k : Int} (hp : -2147483648 ≤ p ∧ p < 2147483648) (ht : -2147483648 ≤ t ∧ t < 2147483648) (hn1 : -2147483648 ≤ n ∧ n < 2147483648) (hk : -2147483648 ≤ k ∧ k < 2147483648) : OkI D m_hs_crowd [vr D 0, vi p, vi t, vi n, vi k] (Zg g h) f (fun y f' => y = S_crowd A p t n k ∧ Cst g f' (A) ∧ q_lo f f') := OkI.mn (hs_crowd hS hF hp ht hn1 hk) (fun y f' hy => by obtain ⟨e1, e2⟩ := hy; rw [e2]; exact ⟨e1, hS, q_lo.refl f⟩)
theorem hsU_shade (hS : Cst g f A) (hF : Wf A) {sh w : Int} (hh : -2147483648 ≤ sh ∧ sh < 2147483648) (hw : -2147483648 ≤ w ∧ w < 2147483648) : OkI D m_hs_shade [vr D 0, vi sh, vi w] (Zg g h) f (fun y f' => y = S_shade A sh w ∧ Cst g f' (A) ∧ q_lo f f') := OkI.mn (hs_shade hS hF hh hw) (fun y f' hy => by obtain ⟨e1, e2⟩ := hy; rw [e2]; exact ⟨e1, hS, q_lo.refl f⟩)
theorem hsU_seed (hS : Cst g f A) (hF : Wf A) {x : Int} (hx : -2147483648 ≤ x ∧ x < 2147483648) : OkI D m_hs_seed [vr D 0, vi x] (Zg g h) f (fun y f' => y = S_seed x ∧ Cst g f' (A_seed A x) ∧ q_lo f f') := OkI.mn (hs_seed hS hx) (fun y f' hy => by
  obtain ⟨e1, e2⟩ := hy
  refine ⟨e1, ?_, ?_⟩
  · unfold A_seed; rw [e2]; split
    · exact hS
    · exact hS.drawn x
  · rw [e2]; split
    · exact q_lo.refl f
    · exact fun j k hj => q_up_at (by omega))
theorem hsU_days (hS : Cst g f A) (hF : Wf A) {n w : Int} (hn1 : -2147483648 ≤ n ∧ n < 2147483648) (hw : -2147483648 ≤ w ∧ w < 2147483648) : OkI D m_hs_days [vr D 0, vi n, vi w] (Zg g h) f (fun y f' => y = S_days A n w ∧ Cst g f' (A_days A n w) ∧ q_lo f f') := OkI.mn (hs_days hS hF hn1 hw) (fun y f' hy => by
  obtain ⟨e1, e2⟩ := hy
  refine ⟨e1, ?_, ?_⟩
  · unfold A_days; rw [e2]; split
    · exact hS.drawn _
    · exact hS
  · rw [e2]; split
    · exact fun j k hj => q_up_at (by omega)
    · exact q_lo.refl f)
theorem hsU_average (hS : Cst g f A) (hF : Wf A) : OkI D m_hs_average [vr D 0] (Zg g h) f (fun y f' => y = S_average A ∧ Cst g f' (A) ∧ q_lo f f') := OkI.mn (hs_average hS hF) (fun y f' hy => by obtain ⟨e1, e2⟩ := hy; rw [e2]; exact ⟨e1, hS, q_lo.refl f⟩)
theorem hsU_image (hS : Cst g f A) (hF : Wf A) : OkI D m_hs_image [vr D 0] (Zg g h) f (fun y f' => y = S_image A ∧ Cst g f' (A_image A) ∧ q_lo f f') := hs_image hS hF
theorem hsU_octet (hS : Cst g f A) (hF : Wf A) {k : Int} (hk : -2147483648 ≤ k ∧ k < 2147483648) : OkI D m_hs_octet [vr D 0, vi k] (Zg g h) f (fun y f' => y = S_octet A k ∧ Cst g f' (A) ∧ q_lo f f') := OkI.mn (hs_octet hS hF hk) (fun y f' hy => by obtain ⟨e1, e2⟩ := hy; rw [e2]; exact ⟨e1, hS, q_lo.refl f⟩)
theorem hsU_on (hS : Cst g f A) (hF : Wf A) : OkI D m_hs_on [vr D 0] (Zg g h) f (fun y f' => y = S_on A ∧ Cst g f' (A_on A) ∧ q_lo f f') := hs_on hS hF
theorem moU_feed (hS : Mst f A) (hF : Wf A) {a b c d e : Int} : OkI D m_mo_feed [vr D 219, vi a, vi b, vi c, vi d, vi e] (Zg g h) f (fun y f' => y = S_feed A ∧ Mst f' (A_feed A a b c d e) ∧ q_hi f f') := mo_feed hS hF
theorem moU_end (hS : Mst f A) (hF : Wf A) {n : Int} (hn : -2147483648 ≤ n ∧ n < 2147483648) : OkI D m_mo_end [vr D 219, vi n] (Zg g h) f (fun y f' => y = S_end A n ∧ Mst f' (A_end A n) ∧ q_hi f f') := mo_end hS hF hn
theorem moU_fault (hS : Mst f A) (hF : Wf A) {w : Int} (hw : -2147483648 ≤ w ∧ w < 2147483648) : OkI D m_mo_fault [vr D 219, vi w] (Zg g h) f (fun y f' => y = S_fault A w ∧ Mst f' (A) ∧ q_hi f f') := OkI.mn (mo_fault hS hF hw) (fun y f' hy => by obtain ⟨e1, e2⟩ := hy; rw [e2]; exact ⟨e1, hS, q_hi.refl f⟩)
theorem moU_has (hS : Mst f A) (hF : Wf A) {w : Int} (hw : -2147483648 ≤ w ∧ w < 2147483648) : OkI D m_mo_has [vr D 219, vi w] (Zg g h) f (fun y f' => y = S_has A w ∧ Mst f' (A) ∧ q_hi f f') := OkI.mn (mo_has hS hF hw) (fun y f' hy => by obtain ⟨e1, e2⟩ := hy; rw [e2]; exact ⟨e1, hS, q_hi.refl f⟩)
theorem moU_letter (hS : Mst f A) (hF : Wf A) {i w k : Int} (hi : -2147483648 ≤ i ∧ i < 2147483648) (hw : -2147483648 ≤ w ∧ w < 2147483648) (hk : -2147483648 ≤ k ∧ k < 2147483648) : OkI D m_mo_letter [vr D 219, vi i, vi w, vi k] (Zg g h) f (fun y f' => y = S_letter A i w k ∧ Mst f' (A) ∧ q_hi f f') := OkI.mn (mo_letter hS hF hi hw hk) (fun y f' hy => by obtain ⟨e1, e2⟩ := hy; rw [e2]; exact ⟨e1, hS, q_hi.refl f⟩)
theorem moU_trait (hS : Mst f A) (hF : Wf A) {t who w : Int} (ht : -2147483648 ≤ t ∧ t < 2147483648) (hwho : -2147483648 ≤ who ∧ who < 2147483648) (hw : -2147483648 ≤ w ∧ w < 2147483648) : OkI D m_mo_trait [vr D 219, vi t, vi who, vi w] (Zg g h) f (fun y f' => y = S_trait A t who w ∧ Mst f' (A) ∧ q_hi f f') := OkI.mn (mo_trait hS hF ht hwho hw) (fun y f' hy => by obtain ⟨e1, e2⟩ := hy; rw [e2]; exact ⟨e1, hS, q_hi.refl f⟩)
theorem moU_seen (hS : Mst f A) (hF : Wf A) {s w : Int} (hs : -2147483648 ≤ s ∧ s < 2147483648) (hw : -2147483648 ≤ w ∧ w < 2147483648) : OkI D m_mo_seen [vr D 219, vi s, vi w] (Zg g h) f (fun y f' => y = S_seen A s w ∧ Mst f' (A) ∧ q_hi f f') := OkI.mn (mo_seen hS hF hs hw) (fun y f' hy => by obtain ⟨e1, e2⟩ := hy; rw [e2]; exact ⟨e1, hS, q_hi.refl f⟩)
theorem moU_far (hS : Mst f A) (hF : Wf A) {a b : Int} (ha : -2147483648 ≤ a ∧ a < 2147483648) (hb : -2147483648 ≤ b ∧ b < 2147483648) : OkI D m_mo_far [vr D 219, vi a, vi b] (Zg g h) f (fun y f' => y = S_far A a b ∧ Mst f' (A) ∧ q_hi f f') := OkI.mn (mo_far hS hF ha hb) (fun y f' hy => by obtain ⟨e1, e2⟩ := hy; rw [e2]; exact ⟨e1, hS, q_hi.refl f⟩)
theorem moU_pass (hS : Mst f A) (hF : Wf A) {a b : Int} (ha : -2147483648 ≤ a ∧ a < 2147483648) (hb : -2147483648 ≤ b ∧ b < 2147483648) : OkI D m_mo_pass [vr D 219, vi a, vi b] (Zg g h) f (fun y f' => y = S_pass A a b ∧ Mst f' (A) ∧ q_hi f f') := OkI.mn (mo_pass hS hF ha hb) (fun y f' hy => by obtain ⟨e1, e2⟩ := hy; rw [e2]; exact ⟨e1, hS, q_hi.refl f⟩)
theorem moU_price (hS : Mst f A) (hF : Wf A) {a b : Int} (ha : -2147483648 ≤ a ∧ a < 2147483648) (hb : -2147483648 ≤ b ∧ b < 2147483648) : OkI D m_mo_price [vr D 219, vi a, vi b] (Zg g h) f (fun y f' => y = S_price A a b ∧ Mst f' (A) ∧ q_hi f f') := OkI.mn (mo_price hS hF ha hb) (fun y f' hy => by obtain ⟨e1, e2⟩ := hy; rw [e2]; exact ⟨e1, hS, q_hi.refl f⟩)
theorem moU_best (hS : Mst f A) (hF : Wf A) {s w l : Int} (hs : -2147483648 ≤ s ∧ s < 2147483648) (hw : w = 0 ∨ w = 1) (hl : -2147483648 ≤ l ∧ l < 2147483648) : OkI D m_mo_best [vr D 219, vi s, vi w, vi l] (Zg g h) f (fun y f' => y = S_best A s w l ∧ Mst f' (A) ∧ q_hi f f') := OkI.mn (mo_best hS hF hs hw hl) (fun y f' hy => by obtain ⟨e1, e2⟩ := hy; rw [e2]; exact ⟨e1, hS, q_hi.refl f⟩)
theorem moU_whose (hS : Mst f A) (hF : Wf A) {s sh : Int} (hs : -2147483648 ≤ s ∧ s < 2147483648) (hh : -2147483648 ≤ sh ∧ sh < 2147483648) : OkI D m_mo_whose [vr D 219, vi s, vi sh] (Zg g h) f (fun y f' => y = S_whose A s sh ∧ Mst f' (A) ∧ q_hi f f') := OkI.mn (mo_whose hS hF hs hh) (fun y f' hy => by obtain ⟨e1, e2⟩ := hy; rw [e2]; exact ⟨e1, hS, q_hi.refl f⟩)
theorem moU_canBe (hS : Mst f A) (hF : Wf A) {a b : Int} (ha : -2147483648 ≤ a ∧ a < 2147483648) (hb : -2147483648 ≤ b ∧ b < 2147483648) : OkI D m_mo_canBe [vr D 219, vi a, vi b] (Zg g h) f (fun y f' => y = S_canBe A a b ∧ Mst f' (A) ∧ q_hi f f') := OkI.mn (mo_canBe hS hF ha hb) (fun y f' hy => by obtain ⟨e1, e2⟩ := hy; rw [e2]; exact ⟨e1, hS, q_hi.refl f⟩)
theorem moU_chain (hS : Mst f A) (hF : Wf A) {p k : Int} (hp : -2147483648 ≤ p ∧ p < 2147483648) (hk : -2147483648 ≤ k ∧ k < 2147483648) : OkI D m_mo_chain [vr D 219, vi p, vi k] (Zg g h) f (fun y f' => y = S_chain A p k ∧ Mst f' (A) ∧ q_hi f f') := OkI.mn (mo_chain hS hF hp hk) (fun y f' hy => ⟨hy.1, hS.scr hF (fun j k h1 h2 => hy.2 j k (by omega)), fun j k hj => hy.2 j k (by omega)⟩)
theorem moU_shades (hS : Mst f A) (hF : Wf A) {p : Int} (hp : -2147483648 ≤ p ∧ p < 2147483648) : OkI D m_mo_shades [vr D 219, vi p] (Zg g h) f (fun y f' => y = S_shades A p ∧ Mst f' (A) ∧ q_hi f f') := OkI.mn (mo_shades hS hF hp) (fun y f' hy => ⟨hy.1, hS.scr hF (fun j k h1 h2 => hy.2 j k (by omega)), fun j k hj => hy.2 j k (by omega)⟩)
theorem moU_must (hS : Mst f A) (hF : Wf A) {s : Int} (hs : -2147483648 ≤ s ∧ s < 2147483648) : OkI D m_mo_must [vr D 219, vi s] (Zg g h) f (fun y f' => y = S_must A s ∧ Mst f' (A) ∧ q_hi f f') := OkI.mn (mo_must hS hF hs) (fun y f' hy => ⟨hy.1, hS.scr hF (fun j k h1 h2 => hy.2 j k (by omega)), fun j k hj => hy.2 j k (by omega)⟩)
theorem moU_clash (hS : Mst f A) (hF : Wf A) {k : Int} (hk : -2147483648 ≤ k ∧ k < 2147483648) : OkI D m_mo_clash [vr D 219, vi k] (Zg g h) f (fun y f' => y = S_clash A k ∧ Mst f' (A) ∧ q_hi f f') := OkI.mn (mo_clash hS hF hk) (fun y f' hy => by obtain ⟨e1, e2⟩ := hy; rw [e2]; exact ⟨e1, hS, q_hi.refl f⟩)
theorem moU_could (hS : Mst f A) (hF : Wf A) {p t w : Int} (hp : -2147483648 ≤ p ∧ p < 2147483648) (ht : -2147483648 ≤ t ∧ t < 2147483648) (hw : w = 0 ∨ w = 1) : OkI D m_mo_could [vr D 219, vi p, vi t, vi w] (Zg g h) f (fun y f' => y = S_could A p t w ∧ Mst f' (A) ∧ q_hi f f') := OkI.mn (mo_could hS hF hp ht hw) (fun y f' hy => by obtain ⟨e1, e2⟩ := hy; rw [e2]; exact ⟨e1, hS, q_hi.refl f⟩)
theorem moU_ways (hS : Mst f A) (hF : Wf A) {l : Int} (hl : -2147483648 ≤ l ∧ l < 2147483648) : OkI D m_mo_ways [vr D 219, vi l] (Zg g h) f (fun y f' => y = S_ways A l ∧ Mst f' (A) ∧ q_hi f f') := OkI.mn (mo_ways hS hF hl) (fun y f' hy => ⟨hy.1, hS.scr hF (fun j k h1 h2 => hy.2 j k h1 h2), fun j k hj => hy.2 j k (by omega) (by omega)⟩)
theorem moU_hire (hS : Mst f A) (hF : Wf A) {s sh : Int} (hs : -2147483648 ≤ s ∧ s < 2147483648) (hh : -2147483648 ≤ sh ∧ sh < 2147483648) : OkI D m_mo_hire [vr D 219, vi s, vi sh] (Zg g h) f (fun y f' => y = S_hire A s sh ∧ Mst f' (A_hire A s sh) ∧ q_hi f f') := mo_hire hS hF hs hh
theorem moU_undo (hS : Mst f A) (hF : Wf A) : OkI D m_mo_undo [vr D 219] (Zg g h) f (fun y f' => y = S_undo A ∧ Mst f' (A_undo A) ∧ q_hi f f') := mo_undo hS hF
theorem moU_crew (hS : Mst f A) (hF : Wf A) {x l k : Int} (hx : -2147483648 ≤ x ∧ x < 2147483648) (hl : -2147483648 ≤ l ∧ l < 2147483648) (hk : -2147483648 ≤ k ∧ k < 2147483648) : OkI D m_mo_crew [vr D 219, vi x, vi l, vi k] (Zg g h) f (fun y f' => y = S_crew A x l k ∧ Mst f' (A) ∧ q_hi f f') := OkI.mn (mo_crew hS hF hx hl hk) (fun y f' hy => ⟨hy.1, hS.scr hF (fun j k h1 h2 => hy.2 j k h1 h2), fun j k hj => hy.2 j k (by omega) (by omega)⟩)
theorem moU_take (hS : Mst f A) (hF : Wf A) {x l : Int} (hx : -2147483648 ≤ x ∧ x < 2147483648) (hl : -2147483648 ≤ l ∧ l < 2147483648) : OkI D m_mo_take [vr D 219, vi x, vi l] (Zg g h) f (fun y f' => y = S_take A x l ∧ Mst f' (A_take A x l) ∧ q_hi f f') := mo_take hS hF hx hl
theorem moU_crowd (hS : Mst f A) (hF : Wf A) {p t n k : Int} (hp : -2147483648 ≤ p ∧ p < 2147483648) (ht : -2147483648 ≤ t ∧ t < 2147483648) (hn1 : -2147483648 ≤ n ∧ n < 2147483648) (hk : -2147483648 ≤ k ∧ k < 2147483648) : OkI D m_mo_crowd [vr D 219, vi p, vi t, vi n, vi k] (Zg g h) f (fun y f' => y = S_crowd A p t n k ∧ Mst f' (A) ∧ q_hi f f') := OkI.mn (mo_crowd hS hF hp ht hn1 hk) (fun y f' hy => by obtain ⟨e1, e2⟩ := hy; rw [e2]; exact ⟨e1, hS, q_hi.refl f⟩)
theorem moU_shade (hS : Mst f A) (hF : Wf A) {sh w : Int} (hh : -2147483648 ≤ sh ∧ sh < 2147483648) (hw : -2147483648 ≤ w ∧ w < 2147483648) : OkI D m_mo_shade [vr D 219, vi sh, vi w] (Zg g h) f (fun y f' => y = S_shade A sh w ∧ Mst f' (A) ∧ q_hi f f') := OkI.mn (mo_shade hS hF hh hw) (fun y f' hy => by obtain ⟨e1, e2⟩ := hy; rw [e2]; exact ⟨e1, hS, q_hi.refl f⟩)
theorem moU_seed (hS : Mst f A) (hF : Wf A) {x : Int} (hx : -2147483648 ≤ x ∧ x < 2147483648) : OkI D m_mo_seed [vr D 219, vi x] (Zg g h) f (fun y f' => y = S_seed x ∧ Mst f' (A_seed A x) ∧ q_hi f f') := OkI.mn (mo_seed hS hx) (fun y f' hy => by
  obtain ⟨e1, e2⟩ := hy
  refine ⟨e1, ?_, ?_⟩
  · unfold A_seed; rw [e2]; split
    · exact hS
    · exact hS.drawn x
  · rw [e2]; split
    · exact q_hi.refl f
    · exact fun j k hj => q_up_at (by omega))
theorem moU_days (hS : Mst f A) (hF : Wf A) {n w : Int} (hn1 : -2147483648 ≤ n ∧ n < 2147483648) (hw : -2147483648 ≤ w ∧ w < 2147483648) : OkI D m_mo_days [vr D 219, vi n, vi w] (Zg g h) f (fun y f' => y = S_days A n w ∧ Mst f' (A_days A n w) ∧ q_hi f f') := OkI.mn (mo_days hS hF hn1 hw) (fun y f' hy => by
  obtain ⟨e1, e2⟩ := hy
  refine ⟨e1, ?_, ?_⟩
  · unfold A_days; rw [e2]; split
    · exact hS.drawn _
    · exact hS
  · rw [e2]; split
    · exact fun j k hj => q_up_at (by omega)
    · exact q_hi.refl f)
theorem moU_average (hS : Mst f A) (hF : Wf A) : OkI D m_mo_average [vr D 219] (Zg g h) f (fun y f' => y = S_average A ∧ Mst f' (A) ∧ q_hi f f') := OkI.mn (mo_average hS hF) (fun y f' hy => by obtain ⟨e1, e2⟩ := hy; rw [e2]; exact ⟨e1, hS, q_hi.refl f⟩)
theorem moU_image (hS : Mst f A) (hF : Wf A) : OkI D m_mo_image [vr D 219] (Zg g h) f (fun y f' => y = S_image A ∧ Mst f' (A_image A) ∧ q_hi f f') := mo_image hS hF
theorem moU_octet (hS : Mst f A) (hF : Wf A) {k : Int} (hk : -2147483648 ≤ k ∧ k < 2147483648) : OkI D m_mo_octet [vr D 219, vi k] (Zg g h) f (fun y f' => y = S_octet A k ∧ Mst f' (A) ∧ q_hi f f') := OkI.mn (mo_octet hS hF hk) (fun y f' hy => by obtain ⟨e1, e2⟩ := hy; rw [e2]; exact ⟨e1, hS, q_hi.refl f⟩)
theorem moU_on (hS : Mst f A) (hF : Wf A) : OkI D m_mo_on [vr D 219] (Zg g h) f (fun y f' => y = S_on A ∧ Mst f' (A_on A) ∧ q_hi f f') := mo_on hS hF
/-- a call out of the law -/
theorem V_lcI {M' : q_M} {As rest : List Value} {q : Int} {idx n ci : Nat} {P : Int → q_F → Prop} (hd : decode (q_cc M) pc = .ok (.invokevirtual idx, 3)) (hl : Cond.methodLink (q_y M).cls idx (q_y M') ∈ q_T) (hm : q_mi M' n ∧ q_mv M' ∧ q_m0 M' ∧ (q_cl[ci]?).map (·.1) = some (q_y M').cls) (hdp : q_dp M' + 1 ≤ q_dp M) (hn : As.length = n) (hwt : q_wt rest ≤ 8) (hq : 0 ≤ q ∧ q.toNat < N) (hk : q_k q = ci) (hroom : cs ≤ q_mc M ∧ ss ≤ q_ms M) (ok : OkI D M' (vr D q :: As) (N, rf, 0, 0) f P) (k : ∀ x f', P x f' → V D C M (pc + 3) L (vi x :: rest) (N, rf, cs, ss) f') : V D C M pc L (As.reverse ++ vr D q :: rest) (N, rf, cs, ss) f := by
  have e := hm.2.2.1
  refine V_callV (M' := M') (ci := ci) hd hl hm.1 hm.2.1 hm.2.2.2 hdp hn hwt hq.1 hq.2 hk (by rw [e.1, e.2]; exact hroom) ok (fun v z' f' h => ?_)
  obtain ⟨rfl, x, rfl, h⟩ := h
  rw [e.1, e.2]
  exact k x f' h
theorem V_same {z : q_Z} {x off : Int} (tgt : Nat) (hd : decode (q_cc M) pc = .ok (.if_icmp .eq off, 3)) (ht : (pc : Int) + off = (tgt : Int)) (k : V D C M tgt L st z f) : V D C M pc L (vi x :: vi x :: st) z f := by
  intro hC H ls locs hW hL hlo
  exact lv_icmp_eq hC.1 hC.2.1 hd ht (fun _ => k hC H ls locs hW hL hlo) (fun h => absurd rfl h)
/-- the script, below all that is ours -/
def q_sc (D : q_D) (C : q_C) (b Ls : Nat) (xs : Nat → Int32) : Prop := va_X b Ls xs (c_s C) D.2.1 ∧ b < D.1
theorem V_sld {z : q_Z} {b Ls : Nat} {xs : Nat → Int32} {x : Int} (hX : q_sc D C b Ls xs) (hd : decode (q_cc M) pc = .ok (.iaload, 1)) (hx : 0 ≤ x ∧ x < Ls) (hb : x < 2147483648) (k : V D C M (pc + 1) L (vi (xs x.toNat).toInt :: st) z f) : V D C M pc L (vi x :: .ref b :: st) z f := by
  intro hC H ls locs hW hL hlo
  obtain ⟨⟨scr, h1, h2, h3, h4, h5⟩, hbl⟩ := hX
  have hti : (Int32.ofInt x).toInt = x := q_ti (by omega)
  have hN : (Int32.ofInt x).toNatClampNeg = x.toNat := by show (Int32.ofInt x).toInt.toNat = _; rw [hti]
  have e : vi (xs x.toNat).toInt = .int (xs x.toNat) := by unfold vi; rw [Int32.ofInt_toInt]
  have k' := k hC H ls locs hW hL hlo
  rw [e] at k'
  refine W.iald (v := .int (xs x.toNat)) hC.1 hC.2.1 (by rw [hW.2.1 b hbl]; exact h1) h2 h3 (by rw [h4]; exact q_inb hx.1 (n := Ls) (by omega) hb (by omega)) (by rw [hN]; exact h5 _ (by omega)) rfl rfl hd k'
theorem V_slen {z : q_Z} {b Ls : Nat} {xs : Nat → Int32} (hX : q_sc D C b Ls xs) (hd : decode (q_cc M) pc = .ok (.arraylength, 1)) (k : V D C M (pc + 1) L (vi (Ls : Int) :: st) z f) : V D C M pc L (.ref b :: st) z f := by
  intro hC H ls locs hW hL hlo
  obtain ⟨⟨scr, h1, h2, h3, h4, h5⟩, hbl⟩ := hX
  have k' := k hC H ls locs hW hL hlo
  have e : vi (Ls : Int) = .int (Int32.ofNat Ls) := by unfold vi; rw [Int32.ofInt_eq_ofNat]
  rw [e] at k'
  exact W.alen (n := Int32.ofNat Ls) hC.1 hC.2.1 (by rw [hW.2.1 b hbl]; exact h1) h2 (by rw [h4] <;> rfl) rfl rfl hd k'
end LAW1
