/-! which sack next: the class -/
/-- z is the leader of group a -/
def IsL (R : Rl) (n a z : Int) : Prop := (0 ≤ z ∧ z < n) ∧ Ld R z ∧ cntP (Ld R) z.toNat = a
theorem IsL.un {R : Rl} {n a z z' : Int} (h : IsL R n a z) (h' : IsL R n a z') : z = z' := by
  rcases Int.lt_trichotomy z z' with l | l | l
  · have := cnt_lt (k := z'.toNat) h.1.1 (by have := h'.1; omega) h.2.1
    have a1 := h.2.2
    have a2 := h'.2.2
    omega
  · exact l
  · have := cnt_lt (k := z.toNat) h'.1.1 (by have := h.1; omega) h'.2.1
    have a1 := h.2.2
    have a2 := h'.2.2
    omega
theorem IsL.r {R : Rl} {n a z : Int} (h : IsL R n a z) : 0 ≤ a ∧ a < cntP (Ld R) n.toNat := by
  have h1 := cnt_lt (k := n.toNat) h.1.1 (by have := h.1; omega) h.2.1
  have h2 := cntP_nn (p := Ld R) z.toNat
  have h3 := h.2.2
  omega
/-- y is the group of s -/
def GOf (R : Rl) (n s y : Int) : Prop := ∃ q : Int, 0 ≤ q ∧ q ≤ s ∧ (R s q ∧ R q s) ∧ (∀ p : Int, 0 ≤ p → p < q → ¬ (R s p ∧ R p s)) ∧ y = cntP (Ld R) q.toNat
theorem GOf.un {R : Rl} {n s y y' : Int} (h : GOf R n s y) (h' : GOf R n s y') : y = y' := by
  obtain ⟨q, q0, q1, q2, q3, q4⟩ := h
  obtain ⟨p, p0, p1, p2, p3, p4⟩ := h'
  rcases Int.lt_trichotomy q p with e | e | e
  · exact absurd q2 (p3 q q0 e)
  · rw [q4, p4, e]
  · exact absurd p2 (q3 p p0 e)
theorem GOf.r {R : Rl} {n s y : Int} (hR : RT R) (h : GOf R n s y) (hs : s < n) : 0 ≤ y ∧ y < cntP (Ld R) n.toNat := by
  obtain ⟨q, q0, q1, q2, q3, q4⟩ := h
  exact IsL.r (z := q) (n := n) ⟨⟨q0, by omega⟩, fun p p0 p1 z => q3 p p0 p1 ⟨hR.2 _ _ _ q2.1 z.1, hR.2 _ _ _ z.2 q2.2⟩, q4.symm⟩
/-- group a is heavier than group c -/
def GR (R : Rl) (n : Int) : Rl := fun a c => ∃ i j : Int, IsL R n a i ∧ IsL R n c j ∧ R i j ∧ ¬ R j i
theorem GR_spo {R : Rl} {n : Int} (hR : RT R) : SPO (cntP (Ld R) n.toNat) (GR R n) := by
  refine ⟨fun a c h => ?_, fun a h => ?_, fun a c e h h' => ?_⟩
  · obtain ⟨i, j, h1, h2, -⟩ := h
    exact ⟨h1.r, h2.r⟩
  · obtain ⟨i, j, h1, h2, h3, h4⟩ := h
    have := h1.un h2
    subst this
    exact h4 h3
  · obtain ⟨i, j, h1, h2, h3, h4⟩ := h
    obtain ⟨j', k, k1, k2, k3, k4⟩ := h'
    have := h2.un k1
    subst this
    exact ⟨i, k, h1, k2, hR.2 _ _ _ h3 k3, fun z => k4 (hR.2 _ _ _ z h3)⟩
theorem GR_i {R : Rl} {n a c i j : Int} (h1 : IsL R n a i) (h2 : IsL R n c j) : GR R n a c ↔ R i j ∧ ¬ R j i := by
  constructor
  · rintro ⟨i', j', k1, k2, k3⟩
    rw [h1.un k1, h2.un k2]; exact k3
  · intro q; exact ⟨i, j, h1, h2, q⟩
/-- how many groups -/
noncomputable def gpn (t : BSt) : Int := cntP (Ld (Rg t SA)) t.1.toNat
theorem gpn_r {t : BSt} {B : Int} (h : StOk t B) : 1 ≤ gpn t ∧ gpn t ≤ 6 := by
  have h1 := cnt_lt (p := Ld (Rg t SA)) (j := 0) (k := t.1.toNat) (by decide) (by have := h.1; omega) (fun q q0 q1 => by omega)
  have h2 := cntP_nn (p := Ld (Rg t SA)) t.1.toNat
  have h3 := cntP_nn (p := Ld (Rg t SA)) (0 : Int).toNat
  have h4 := h.1
  unfold gpn
  omega
def MoreC (t : BSt) (s w z : Int) : Prop := ∃ y : Int, ((s = -1 ∧ y = -1) ∨ (s ≠ -1 ∧ GOf (Rg t SA) t.1 s y)) ∧ (w = 0 → z = (vl (gpn t) (GR (Rg t SA) t.1) y : Int)) ∧ (w = 1 → ∃ f : Int, FstQ (gpn t) (GR (Rg t SA) t.1) y f ∧ ((f = -1 ∧ z = -6) ∨ (f ≠ -1 ∧ IsL (Rg t SA) t.1 f z)))
def MoreOk (t : BSt) (s w : Int) : Prop := (s = -1 ∨ (0 ≤ s ∧ s < t.1)) ∧ (0 ≤ w ∧ w ≤ 1) ∧ Can t SA ∧ gpn t ≤ 5
def MoreQ (t : BSt) (s w z : Int) : Prop := (¬ (s = -1 ∨ (0 ≤ s ∧ s < t.1)) → z = -1) ∧ ((s = -1 ∨ (0 ≤ s ∧ s < t.1)) → ¬ (0 ≤ w ∧ w ≤ 1) → z = -2) ∧ ((s = -1 ∨ (0 ≤ s ∧ s < t.1)) → (0 ≤ w ∧ w ≤ 1) → ¬ Can t SA → z = -3) ∧ ((s = -1 ∨ (0 ≤ s ∧ s < t.1)) → (0 ≤ w ∧ w ≤ 1) → Can t SA → ¬ gpn t ≤ 5 → z = -5) ∧ (MoreOk t s w → MoreC t s w z)
theorem MoreC_un {t : BSt} {s w z z' : Int} (hw : 0 ≤ w ∧ w ≤ 1) (h : MoreC t s w z) (h' : MoreC t s w z') : z = z' := by
  obtain ⟨y, h1, h2, h3⟩ := h
  obtain ⟨y', k1, k2, k3⟩ := h'
  have ey : y = y' := by
    rcases h1 with ⟨a, c⟩ | ⟨a, c⟩ <;> rcases k1 with ⟨a', c'⟩ | ⟨a', c'⟩
    · omega
    · exact absurd a a'
    · exact absurd a' a
    · exact c.un c'
  subst ey
  rcases (show w = 0 ∨ w = 1 by omega) with e | e
  · rw [h2 e, k2 e]
  · obtain ⟨f, f1, f2⟩ := h3 e
    obtain ⟨f', f1', f2'⟩ := k3 e
    have ef := FstQ_un f1 f1'
    subst ef
    rcases f2 with ⟨a, c⟩ | ⟨a, c⟩ <;> rcases f2' with ⟨a', c'⟩ | ⟨a', c'⟩
    · omega
    · exact absurd a a'
    · exact absurd a' a
    · exact c.un c'
theorem MoreQ_un {t : BSt} {s w z z' : Int} (h : MoreQ t s w z) (h' : MoreQ t s w z') : z = z' := by
  obtain ⟨a1, a2, a3, a4, a5⟩ := h
  obtain ⟨c1, c2, c3, c4, c5⟩ := h'
  by_cases q1 : s = -1 ∨ (0 ≤ s ∧ s < t.1)
  · by_cases q2 : 0 ≤ w ∧ w ≤ 1
    · by_cases q3 : Can t SA
      · by_cases q4 : gpn t ≤ 5
        · exact MoreC_un q2 (a5 ⟨q1, q2, q3, q4⟩) (c5 ⟨q1, q2, q3, q4⟩)
        · rw [a4 q1 q2 q3 q4, c4 q1 q2 q3 q4]
      · rw [a3 q1 q2 q3, c3 q1 q2 q3]
    · rw [a2 q1 q2, c2 q1 q2]
  · rw [a1 q1, c1 q1]
theorem MoreQ_1 {t : BSt} {s w : Int} (h : ¬ (s = -1 ∨ (0 ≤ s ∧ s < t.1))) : MoreQ t s w (-1) := ⟨fun _ => rfl, fun q => absurd q h, fun q => absurd q h, fun q => absurd q h, fun q => absurd q.1 h⟩
theorem MoreQ_2 {t : BSt} {s w : Int} (h1 : s = -1 ∨ (0 ≤ s ∧ s < t.1)) (h : ¬ (0 ≤ w ∧ w ≤ 1)) : MoreQ t s w (-2) := ⟨fun q => absurd h1 q, fun _ _ => rfl, fun _ q => absurd q h, fun _ q => absurd q h, fun q => absurd q.2.1 h⟩
theorem MoreQ_3 {t : BSt} {s w : Int} (h1 : s = -1 ∨ (0 ≤ s ∧ s < t.1)) (h2 : 0 ≤ w ∧ w ≤ 1) (h : ¬ Can t SA) : MoreQ t s w (-3) := ⟨fun q => absurd h1 q, fun _ q => absurd h2 q, fun _ _ _ => rfl, fun _ _ q => absurd q h, fun q => absurd q.2.2.1 h⟩
theorem MoreQ_5 {t : BSt} {s w : Int} (h1 : s = -1 ∨ (0 ≤ s ∧ s < t.1)) (h2 : 0 ≤ w ∧ w ≤ 1) (h3 : Can t SA) (h : ¬ gpn t ≤ 5) : MoreQ t s w (-5) := ⟨fun q => absurd h1 q, fun _ q => absurd h2 q, fun _ _ q => absurd h3 q, fun _ _ _ _ => rfl, fun q => absurd q.2.2.2 h⟩
theorem MoreQ_6 {t : BSt} {s w z : Int} (h : MoreOk t s w) (hz : MoreC t s w z) : MoreQ t s w z := ⟨fun q => absurd h.1 q, fun _ q => absurd h.2.1 q, fun _ _ q => absurd h.2.2.1 q, fun _ _ _ q => absurd h.2.2.2 q, fun _ => hz⟩
/-- the order of the groups under way, up to (i, j) -/
def GO (R : Rl) (n i j r : Int) : Prop := W25 r ∧ ∀ a c : Int, 0 ≤ a → a < 5 → 0 ≤ c → c < 5 → (tb r (5 * a + c) ↔ GR R n a c ∧ (a < i ∨ (a = i ∧ c < j)))
theorem GO_0 {R : Rl} {n : Int} : GO R n 0 0 0 := ⟨⟨by decide, by decide⟩, fun a c a0 a1 c0 c1 => ⟨fun q => absurd q tb_zero, fun q => by omega⟩⟩
theorem GO_next {R : Rl} {n i k r : Int} (h : GO R n i k r) (hk : k = cntP (Ld R) n.toNat) : GO R n (i + 1) 0 r := ⟨h.1, fun a c a0 a1 c0 c1 => (h.2 a c a0 a1 c0 c1).trans ⟨fun q => ⟨q.1, by omega⟩, fun q => ⟨q.1, by
  obtain ⟨⟨i', j', q1, q2, -⟩, q3⟩ := q
  have := q2.r
  omega⟩⟩⟩
theorem GO_no {R : Rl} {n i j r : Int} (h : GO R n i j r) (hn : ¬ GR R n i j) : GO R n i (j + 1) r := ⟨h.1, fun a c a0 a1 c0 c1 => (h.2 a c a0 a1 c0 c1).trans ⟨fun q => ⟨q.1, by omega⟩, fun q => ⟨q.1, by
  by_cases e : a = i ∧ c = j
  · exact absurd q.1 (by rw [e.1, e.2]; exact hn)
  · omega⟩⟩⟩
theorem GO_yes {R : Rl} {n i j r : Int} (h : GO R n i j r) (hi : 0 ≤ i ∧ i < 5) (hj : 0 ≤ j ∧ j < 5) (hy : GR R n i j) : GO R n i (j + 1) (iOr r (iShl 1 (i * 5 + j))) := by
  refine ⟨or_rng 25 (by decide) h.1 (shl1_rng 25 (by decide) (by omega)), fun a c a0 a1 c0 c1 => ?_⟩
  rw [tb_or, h.2 a c a0 a1 c0 c1, tb_shl1 (by omega) (by omega)]
  constructor
  · rintro (q | q)
    · exact ⟨q.1, by omega⟩
    · have e1 : a = i := by omega
      have e2 : c = j := by omega
      rw [e1, e2]; exact ⟨hy, by omega⟩
  · rintro ⟨q, q2⟩
    by_cases e : a = i ∧ c = j
    · exact Or.inr (by omega)
    · exact Or.inl ⟨q, by omega⟩
theorem GO_end {R : Rl} {n r : Int} (h : GO R n (cntP (Ld R) n.toNat) 0 r) (h5 : cntP (Ld R) n.toNat ≤ 5) : W25 r ∧ RB r = GR R n := by
  refine ⟨h.1, funext fun a => funext fun c => propext ⟨fun q => ((h.2 a c q.1.1 q.1.2 q.2.1.1 q.2.1.2).mp q.2.2).1, fun q => ?_⟩⟩
  obtain ⟨i, j, q1, q2, q3⟩ := id q
  have r1 := q1.r
  have r2 := q2.r
  exact ⟨by omega, by omega, (h.2 a c r1.1 (by omega) r2.1 (by omega)).mpr ⟨q, Or.inl r1.2⟩⟩
theorem PlM_0 {μ : Mu} {b : Nat} {n : Int} (h : μ (b + 1) = fun _ => 0) : PlM μ b n := fun w _ _ => Or.inl (by rw [h])
section MORE
variable {l : Launch} {G : Glb} {S : Sh} {μ : Mu} {x b q N0 : Nat} {im pl : Nat → Option Nat} {t : BSt} {g : Int → Int} {n B : Int}
set_option maxHeartbeats 4000000 in
set_option maxRecDepth 100000 in
theorem c_X3_init {gn : Int} (hg : 1 ≤ gn ∧ gn ≤ 5) (hN0 : N0 = cdN (gn - 1).toNat) (hS1 : S.1 = b + 1) (hb : S.2 b = some (oS 3 [none, none, some none])) : Ct l G cX3_init (yX3_init, 2, none, 1, 1, N0) [.ref b, vi gn] S μ (Mk S μ b 2 (fun S' μ' => PlnS S' b N0 ∧ PlC μ' b gn ∧ μ' (b + 1) = fun _ => 0)) := by
  have nr := cdN_r hg
  have ec : codesV gn.toNat = vi (N0 : Int) := by
    rw [hN0]
    rcases (show gn = 1 ∨ gn = 2 ∨ gn = 3 ∨ gn = 4 ∨ gn = 5 by omega) with e | e | e | e | e <;> subst e <;> rfl
  have pg : 0 ≤ gn * (gn - 1) ∧ gn * (gn - 1) < 100 := by
    rcases (show gn = 1 ∨ gn = 2 ∨ gn = 3 ∨ gn = 4 ∨ gn = 5 by omega) with e | e | e | e | e <;> subst e <;> decide
  refine Ct.of (show plainName yX3_init.cls = true by decide) rfl (by simp [vi, Value.category]) (Nat.le_of_ble_eq_true rfl) ?_
  refine v_aload_n aX3_init_0 rfl ?_
  refine v_objInit aX3_init_1 loX3_3 w_obi w_obc (Nat.le_of_ble_eq_true rfl) (Nat.le_of_ble_eq_true rfl) ?_
  refine v_aload_n aX3_init_4 rfl ?_
  refine v_iconst aX3_init_5 ?_
  refine v_iload_n aX3_init_6 rfl ?_
  refine v_iconst aX3_init_7 ?_
  refine v_min (by omega) (by omega) lmX3_9 aX3_init_8 (Nat.le_of_ble_eq_true rfl) ⟨by dsimp only; omega, by dsimp only; omega⟩ (Nat.le_of_ble_eq_true rfl) ?_
  refine v_max (by omega) (by omega) lmX3_15 aX3_init_11 (Nat.le_of_ble_eq_true rfl) ⟨by dsimp only; omega, by dsimp only; omega⟩ (Nat.le_of_ble_eq_true rfl) ?_
  refine v_top (show max 0 (min gn 5) = gn by omega) ?_
  refine v_putF aX3_init_14 foX3_18 fi3_0 ok3_0 rfl hb rfl rfl ?_
  refine v_aload_n aX3_init_17 rfl ?_
  refine v_aload_n aX3_init_18 rfl ?_
  refine v_gi 0 rfl aX3_init_19 fX3_18 hb rfl rfl ?_
  refine v_top (show upd2 μ b ((0 : Nat) : Int) gn b 0 = gn from upd2_same) ?_
  refine v_aload_n aX3_init_22 rfl ?_
  refine v_gi 0 rfl aX3_init_23 fX3_18 hb rfl rfl ?_
  refine v_top (show upd2 μ b ((0 : Nat) : Int) gn b 0 = gn from upd2_same) ?_
  refine v_iconst aX3_init_26 ?_
  refine v_isub aX3_init_27 ?_
  refine v_imul aX3_init_28 ?_
  refine v_iconst aX3_init_29 ?_
  refine v_idiv (by omega) (by omega) aX3_init_30 ?_
  refine v_putF aX3_init_31 foX3_24 fi3_1 ok3_1 rfl hb rfl rfl ?_
  refine v_aload_n aX3_init_34 rfl ?_
  refine v_codes aX3_init_35 stX3_27 ?_
  refine v_aload_n aX3_init_38 rfl ?_
  refine v_gi 0 rfl aX3_init_39 fX3_18 hb rfl rfl ?_
  have e0 : upd2 (upd2 μ b ((0 : Nat) : Int) gn) b ((1 : Nat) : Int) (gn * (gn - 1) / 2) b 0 = gn := by
    rw [upd2_ap, if_neg (fun z => absurd z.2 (by decide))]
    exact upd2_same
  refine v_top e0 ?_
  refine v_codesld aX3_init_42 (by omega) ?_
  rw [ec]
  refine w_newI (N := N0) (a := b + 1) aX3_init_43 hS1 rfl (by omega) ⟨by dsimp only; omega, by dsimp only; omega⟩ (fun S1 μ1 z1 s1 e1 n1 m1 => ?_)
  have hb1 : S1.2 b = some (oS 3 [none, none, some none]) := (e1 _ (by omega)).trans hb
  refine w_putFr aX3_init_45 foX3_31 fi3_2 ok3_2 rfl hb1 (Nat.le_of_ble_eq_true rfl) rfl (fun S2 y2 s2 e2 => ?_)
  refine v_return aX3_init_48 rfl ⟨by dsimp only; omega, by dsimp only; omega⟩ ?_
  refine ⟨rfl, y2.trans z1, fun r hr => (e2 r (by omega)).trans (e1 r (by omega)), fun r hr => ?_, ⟨s2, (e2 _ (by omega)).trans s1⟩, ⟨?_, ?_⟩, n1⟩
  · rw [m1 r (by omega), upd2_row (by omega), upd2_row (by omega)]
  · rw [m1 b (by omega)]; exact e0
  · rw [m1 b (by omega)]; exact upd2_same
set_option maxHeartbeats 4000000 in
set_option maxRecDepth 100000 in
theorem cR_X7_plannerFor {gn : Int} (hX : LsS S x im pl) (hg : 1 ≤ gn ∧ gn ≤ 5) (hpl : pl gn.toNat = some q) : Ct l G cX7_plannerFor (yX7_plannerFor, 3, (some (FieldType.object "LastScale$Planner")), 2, 0, 0) [.ref x, vi gn] S μ (fun r S' μ' => r = some (.ref q) ∧ S' = S ∧ μ' = μ) := by
  refine Ct.of (by decide) rfl (by simp [vi, Value.category]) (Nat.le_of_ble_eq_true rfl) ?_
  refine v_aload_n aX7_plannerFor_0 rfl ?_
  refine v_getr aX7_plannerFor_1 fX7_57 hX.p rfl rfl ?_
  refine v_iload_n aX7_plannerFor_4 rfl ?_
  refine v_aaldR (kk := 104) (q := q) rfl rfl aX7_plannerFor_5 hX.planners (by omega) (by decide) hpl ?_
  refine v_astore_n aX7_plannerFor_6 (by decide) rfl ?_
  refine v_aload_n aX7_plannerFor_7 rfl ?_
  refine v_ifnonnull 27 rfl aX7_plannerFor_8 ?_
  refine v_aload_n aX7_plannerFor_27 rfl ?_
  exact v_areturn aX7_plannerFor_28 rfl (Or.inl ⟨_, rfl⟩) ⟨Nat.le_refl _, Nat.le_refl _⟩ ⟨rfl, rfl, rfl⟩
set_option maxHeartbeats 4000000 in
set_option maxRecDepth 100000 in
theorem cN_X7_plannerFor {gn : Int} (hX : LsS S x im pl) (hg : 1 ≤ gn ∧ gn ≤ 5) (hN0 : N0 = cdN (gn - 1).toNat) (hpl : pl gn.toNat = none) (hS : S.1 = q) (hd : x + 33 ≤ q) : Ct l G cX7_plannerFor (yX7_plannerFor, 3, (some (FieldType.object "LastScale$Planner")), 2, 2, 3 + N0) [.ref x, vi gn] S μ (fun r S' μ' => r = some (.ref q) ∧ S'.1 = q + 2 ∧ LsS S' x im (fun j => if j = gn.toNat then some q else pl j) ∧ PlnS S' q N0 ∧ PlC μ' q gn ∧ μ' (q + 1) = (fun _ => 0) ∧ (∀ a, a < q → a ≠ x + 32 → S'.2 a = S.2 a) ∧ ∀ a, a < q → μ' a = μ a) := by
  refine Ct.of (show plainName yX7_plannerFor.cls = true by decide) rfl (by simp [vi, Value.category]) (Nat.le_of_ble_eq_true rfl) ?_
  refine v_aload_n aX7_plannerFor_0 rfl ?_
  refine v_getr aX7_plannerFor_1 fX7_57 hX.p rfl rfl ?_
  refine v_iload_n aX7_plannerFor_4 rfl ?_
  refine v_aaldN (kk := 104) rfl rfl aX7_plannerFor_5 hX.planners (by omega) (by decide) hpl ?_
  refine v_astoreN aX7_plannerFor_6 (Nat.le_of_ble_eq_true rfl) rfl ?_
  refine v_aloadN aX7_plannerFor_7 rfl ?_
  refine v_ifnonnullN aX7_plannerFor_8 ?_
  refine new_c3 aX7_plannerFor_11 hS ⟨by dsimp only; omega, by dsimp only; omega⟩ clX7_55 (fun S1 μ1 z1 s1 e1 n1 m1 => ?_)
  refine v_dup rfl aX7_plannerFor_14 ?_
  refine v_iload_n aX7_plannerFor_15 rfl ?_
  refine v_callI [vi gn] (c_X3_init hg hN0 z1 s1) aX7_plannerFor_16 mX3_init viX3_init rfl lX7_170 rfl rfl (Nat.le_of_ble_eq_true rfl) ⟨by dsimp only; omega, by dsimp only; omega⟩ (Nat.le_of_ble_eq_true rfl) ?_
  rintro r S2 μ2 ⟨rfl, z2, e2, m2, hQ2, hc2, hm2⟩
  refine v_astore_n aX7_plannerFor_19 (Nat.le_of_ble_eq_true rfl) rfl ?_
  have hx2 : ∀ a, a < q → S2.2 a = S.2 a := fun a ha => (e2 a ha).trans (e1 a (by omega))
  have hμ2 : ∀ a, a < q → μ2 a = μ a := fun a ha => (m2 a ha).trans (m1 a (by omega))
  have hX2 : LsS S2 x im pl := hX.kept (fun a a0 a1 => hx2 a (by omega))
  refine v_aload_n aX7_plannerFor_20 rfl ?_
  refine v_getr aX7_plannerFor_21 fX7_57 hX2.p rfl rfl ?_
  refine v_iload_n aX7_plannerFor_24 rfl ?_
  refine v_aload_n aX7_plannerFor_25 rfl ?_
  refine v_aast (kk := 104) (ci := 3) rfl rfl rfl aX7_plannerFor_26 hX2.planners hQ2.p rfl (by omega) (by decide) ?_
  have hX3 : LsS (sput S2 (x + 32) (aR 104 6 (fun j => if j = gn.toNat then some q else pl j))) x im (fun j => if j = gn.toNat then some q else pl j) := hX2.rep (fun a a0 a1 a2 => if_neg (by omega)) ((if_neg (by omega)).trans hX2.images) (if_pos rfl)
  refine v_aload_n aX7_plannerFor_27 rfl ?_
  refine v_areturn aX7_plannerFor_28 rfl (Or.inl ⟨_, rfl⟩) ⟨by dsimp only; omega, by dsimp only; omega⟩ ?_
  exact ⟨rfl, z2, hX3, ⟨(if_neg (by omega)).trans hQ2.1, (if_neg (by omega)).trans hQ2.2⟩, hc2, hm2, fun a ha a2 => (if_neg a2).trans (hx2 a ha), hμ2⟩
set_option maxHeartbeats 4000000 in
set_option maxRecDepth 100000 in
theorem li_X7_groupOrder {gn i : Int} (hX : LsS S x im pl) (hok : StOk t B) (hr : RlAt μ x t) (hg : gn = gpn t) (hg5 : gn ≤ 5) (hi : 0 ≤ i ∧ i < gn) (hh : ∀ (r : Int) (L : List Value), GO (Rg t SA) t.1 (i + 1) 0 r → V l G cX7_groupOrder (yX7_groupOrder, 5, (some FieldType.int), 4, 0, 0) (Re S (fun z μ' => μ' = μ ∧ W25 z ∧ RB z = GR (Rg t SA) t.1)) (0, 0) S μ 4 ([.ref x, vi gn, vi r, vi (i + 1)] ++ L) []) : ∀ (N : Nat) (j r : Int), (0 ≤ j ∧ j ≤ gn) → gn - j < N → GO (Rg t SA) t.1 i j r → V l G cX7_groupOrder (yX7_groupOrder, 5, (some FieldType.int), 4, 0, 0) (Re S (fun z μ' => μ' = μ ∧ W25 z ∧ RB z = GR (Rg t SA) t.1)) (0, 0) S μ 12 [.ref x, vi gn, vi r, vi i, vi j] [] := by
  intro N
  induction N with
  | zero => intros; omega
  | succ N ih =>
    intro j r h0 h1 hR
    obtain ⟨o1, o2, o3, o4, o5⟩ := id hok
    have r4 := hr.2.1
    have eg : gn = cntP (Ld (Rg t SA)) (μ (x + 23) 2).toNat := by rw [r4]; exact hg
    refine v_iload aX7_groupOrder_12 rfl ?_
    refine v_iload_n aX7_groupOrder_14 rfl ?_
    refine v_icmp_ge 60 rfl aX7_groupOrder_15 (by omega) (by omega) (fun c15 => ?_) (fun c15 => ?_)
    · --
      refine v_iinc aX7_groupOrder_60 rfl (by decide) rfl ?_
      refine v_goto 4 rfl aX7_groupOrder_63 ?_
      obtain rfl : j = gn := by omega
      exact hh r [vi j] (GO_next hR hg)
    · --
      refine v_aload_n aX7_groupOrder_18 rfl ?_
      refine v_getr aX7_groupOrder_19 fX7_30 hX.p rfl rfl ?_
      refine v_aload_n aX7_groupOrder_22 rfl ?_
      refine v_getr aX7_groupOrder_23 fX7_30 hX.p rfl rfl ?_
      refine v_iload_n aX7_groupOrder_26 rfl ?_
      refine v_cVe (c_X4_leaderOf hX.relation hr.1 (by omega) hr.2.2 (by omega)) aX7_groupOrder_27 mX4_leaderOf vX4_leaderOf lX7_167 hX.relation.p rfl rfl rfl rfl rfl (Nat.le_of_ble_eq_true rfl) ⟨Nat.le_of_ble_eq_true rfl, Nat.le_of_ble_eq_true rfl⟩ (Nat.le_of_ble_eq_true rfl) (fun a μ1 ⟨e1, a1⟩ => ?_)
      subst e1
      rw [r4] at a1
      refine v_aload_n aX7_groupOrder_30 rfl ?_
      refine v_getr aX7_groupOrder_31 fX7_30 hX.p rfl rfl ?_
      refine v_iload aX7_groupOrder_34 rfl ?_
      refine v_cVe (c_X4_leaderOf hX.relation hr.1 (by omega) hr.2.2 (by omega)) aX7_groupOrder_36 mX4_leaderOf vX4_leaderOf lX7_167 hX.relation.p rfl rfl rfl rfl rfl (Nat.le_of_ble_eq_true rfl) ⟨Nat.le_of_ble_eq_true rfl, Nat.le_of_ble_eq_true rfl⟩ (Nat.le_of_ble_eq_true rfl) (fun c μ2 ⟨e2, a2⟩ => ?_)
      subst e2
      rw [r4] at a2
      have hgi := GR_i (R := Rg t SA) (n := t.1) a1 a2
      refine v_cVi (c_X4_isHeavier hX.relation hr.1 (by omega) (by omega)) aX7_groupOrder_39 mX4_isHeavier vX4_isHeavier lX7_172 hX.relation.p rfl rfl rfl rfl rfl (Nat.le_of_ble_eq_true rfl) ⟨Nat.le_of_ble_eq_true rfl, Nat.le_of_ble_eq_true rfl⟩ (Nat.le_of_ble_eq_true rfl) ?_
      refine v_if_eq_b 54 rfl aX7_groupOrder_42 (fun c42 => ?_) (fun c42 => ?_)
      · --
        refine v_iinc aX7_groupOrder_54 rfl (by decide) rfl ?_
        refine v_goto 12 rfl aX7_groupOrder_57 ?_
        exact ih (j + 1) r (by omega) (by omega) (GO_no hR (fun q => c42 (hgi.mp q)))
      · --
        refine v_iload_n aX7_groupOrder_45 rfl ?_
        refine v_iload_n aX7_groupOrder_46 rfl ?_
        refine v_iload aX7_groupOrder_47 rfl ?_
        refine v_cSi (c_X3_pair) aX7_groupOrder_49 mX3_pair sX3_pair lX7_176 rfl rfl (Nat.le_of_ble_eq_true rfl) ⟨Nat.le_of_ble_eq_true rfl, Nat.le_of_ble_eq_true rfl⟩ (Nat.le_of_ble_eq_true rfl) ?_
        refine v_ior aX7_groupOrder_52 ?_
        refine v_istore_n aX7_groupOrder_53 (by decide) rfl ?_
        refine v_iinc aX7_groupOrder_54 rfl (by decide) rfl ?_
        refine v_goto 12 rfl aX7_groupOrder_57 ?_
        exact ih (j + 1) _ (by omega) (by omega) (GO_yes hR (by omega) (by omega) (hgi.mpr c42))
set_option maxHeartbeats 4000000 in
set_option maxRecDepth 100000 in
theorem lo_X7_groupOrder {gn : Int} (hX : LsS S x im pl) (hok : StOk t B) (hr : RlAt μ x t) (hg : gn = gpn t) (hg5 : gn ≤ 5) : ∀ (N : Nat) (i r : Int) (L : List Value), (0 ≤ i ∧ i ≤ gn) → gn - i < N → GO (Rg t SA) t.1 i 0 r → V l G cX7_groupOrder (yX7_groupOrder, 5, (some FieldType.int), 4, 0, 0) (Re S (fun z μ' => μ' = μ ∧ W25 z ∧ RB z = GR (Rg t SA) t.1)) (0, 0) S μ 4 ([.ref x, vi gn, vi r, vi i] ++ L) [] := by
  intro N
  induction N with
  | zero => intros; omega
  | succ N ih =>
    intro i r L h0 h1 hR
    refine v_take 4 rfl ?_
    show V _ _ _ _ _ _ _ _ _ [.ref x, vi gn, vi r, vi i] _
    refine v_iload_n aX7_groupOrder_4 rfl ?_
    refine v_iload_n aX7_groupOrder_5 rfl ?_
    refine v_icmp_ge 66 rfl aX7_groupOrder_6 (by omega) (by omega) (fun c6 => ?_) (fun c6 => ?_)
    · --
      refine v_iload_n aX7_groupOrder_66 rfl ?_
      refine v_ireturn aX7_groupOrder_67 rfl ⟨Nat.le_refl _, Nat.le_refl _⟩ ?_
      obtain rfl : i = gn := by omega
      subst hg
      exact ⟨_, rfl, rfl, rfl, GO_end hR hg5⟩
    · --
      refine v_iconst aX7_groupOrder_9 ?_
      refine v_istore aX7_groupOrder_10 (by decide) rfl ?_
      exact li_X7_groupOrder hX hok hr hg hg5 (by omega) (fun r2 L2 h2 => ih (i + 1) r2 L2 (by omega) (by omega) h2) 6 0 r (by omega) (by omega) hR
set_option maxHeartbeats 4000000 in
set_option maxRecDepth 100000 in
theorem c_X7_groupOrder {gn : Int} (hX : LsS S x im pl) (hok : StOk t B) (hr : RlAt μ x t) (hg : gn = gpn t) (hg5 : gn ≤ 5) (hg0 : 0 ≤ gn) : Ct l G cX7_groupOrder (yX7_groupOrder, 5, (some FieldType.int), 4, 0, 0) [.ref x, vi gn] S μ (Re S (fun z μ' => μ' = μ ∧ W25 z ∧ RB z = GR (Rg t SA) t.1)) := by
  refine Ct.of (by decide) rfl (by simp [vi, Value.category]) (Nat.le_of_ble_eq_true rfl) ?_
  refine v_iconst aX7_groupOrder_0 ?_
  refine v_istore_n aX7_groupOrder_1 (by decide) rfl ?_
  refine v_iconst aX7_groupOrder_2 ?_
  refine v_istore_n aX7_groupOrder_3 (by decide) rfl ?_
  exact lo_X7_groupOrder hX hok hr hg hg5 6 0 0 [] (by omega) (by omega) GO_0
set_option maxHeartbeats 4000000 in
set_option maxRecDepth 100000 in
theorem ct_X7_more {mc ms p : Nat} {P : Pst} {s w gn : Int} (hX : LsS S x im pl) (h : LsAt μ x t g n) (hok : StOk t B) (hr : RlAt μ x t) (hcan : Can t SA) (hs : s = -1 ∨ (0 ≤ s ∧ s < t.1)) (hw : 0 ≤ w ∧ w ≤ 1) (hgn : gn = gpn t) (hg5 : 1 ≤ gn ∧ gn ≤ 5) (hP : PlnS S p N0) (hN0 : N0 = cdN (gn - 1).toNat) (hc : PlC μ p gn) (hm : PlM μ p gn) (hd : x + 33 ≤ p) (hh : ∀ (z : Int) (μ' : Mu), MoreQ t s w z → Kp μ μ' p gn → P (some (vi z)) S μ') : V l G cX7_more (yX7_more, 9, (some FieldType.int), 27, mc, ms) P (mc, ms) S μ 66 [.ref x, vi s, vi w, vi gn] [.ref p] := by
  obtain ⟨o1, o2, o3, o4, o5⟩ := id hok
  have eg2 : gpn t = cntP (Ld (Rg t SA)) t.1.toNat := rfl
  have r4 := hr.2.1
  have hrk : ∀ μ' : Mu, Kp μ μ' p gn → RlAt μ' x t := fun μ' k => ⟨by rw [k.2 _ (by omega)]; exact hr.1, by rw [k.2 _ (by omega)]; exact hr.2.1, by rw [k.2 (x + 23) (by omega)]; exact hr.2.2⟩
  refine v_astore aX7_more_66 (Nat.le_of_ble_eq_true rfl) rfl ?_
  refine v_iload_n aX7_more_68 rfl ?_
  refine v_iconst aX7_more_69 ?_
  refine v_icmp_ne 77 rfl aX7_more_70 (by omega) (by omega) (fun c70 => ?_) (fun c70 => ?_)
  · --
    refine v_aload_n aX7_more_77 rfl ?_
    refine v_getr aX7_more_78 fX7_30 hX.p rfl rfl ?_
    refine v_iload_n aX7_more_81 rfl ?_
    refine v_cVe (c_X4_groupOf hX.relation hr.1 (by omega) hr.2.2 (by omega) (RT_Rg.1 s)) aX7_more_82 mX4_groupOf vX4_groupOf lX7_154 hX.relation.p rfl rfl rfl rfl rfl (Nat.le_of_ble_eq_true rfl) ⟨by dsimp only; omega, by dsimp only; omega⟩ (Nat.le_of_ble_eq_true rfl) (fun y μ1 ⟨e1, y1⟩ => ?_)
    subst e1
    refine v_istore aX7_more_85 (Nat.le_of_ble_eq_true rfl) rfl ?_
    refine v_aload_n aX7_more_87 rfl ?_
    refine v_iload_n aX7_more_88 rfl ?_
    refine v_cVe (c_X7_groupOrder hX hok hr hgn hg5.2 (by omega)) aX7_more_89 mX7_groupOrder vX7_groupOrder lX7_157 hX.p rfl rfl rfl rfl rfl (Nat.le_of_ble_eq_true rfl) ⟨by dsimp only; omega, by dsimp only; omega⟩ (Nat.le_of_ble_eq_true rfl) (fun ow μ2 ⟨e2, w1, w2⟩ => ?_)
    subst e2
    have hyr : y = -1 ∨ (0 ≤ y ∧ y < gn) := Or.inr (by rw [hgn]; exact GOf.r (n := t.1) RT_Rg y1 (by omega))
    have how : OW gn ow := ⟨w1, by rw [w2, hgn]; exact GR_spo RT_Rg⟩
    refine v_istore aX7_more_92 (Nat.le_of_ble_eq_true rfl) rfl ?_
    refine v_aload aX7_more_94 rfl ?_
    refine v_iload aX7_more_96 rfl ?_
    refine v_iload aX7_more_98 rfl ?_
    refine v_cVe (c_X3_fewestLifts hP hg5 hN0 hc hm how hyr) aX7_more_100 mX3_fewestLifts vX3_fewestLifts lX7_160 hP.p rfl rfl rfl rfl rfl (Nat.le_of_ble_eq_true rfl) ⟨by dsimp only; omega, by dsimp only; omega⟩ (Nat.le_of_ble_eq_true rfl) (fun z μ3 ⟨z1, k3⟩ => ?_)
    refine v_istore aX7_more_103 (Nat.le_of_ble_eq_true rfl) rfl ?_
    have vr := vl_11 (G := gn) (R := RB ow) hg5 how.2 (y)
    
    refine v_iload_n aX7_more_105 rfl ?_
    refine v_if_ne 112 rfl aX7_more_106 (by omega) (fun c106 => ?_) (fun c106 => ?_)
    · --
      refine v_aload aX7_more_112 rfl ?_
      refine v_iload aX7_more_114 rfl ?_
      refine v_iload aX7_more_116 rfl ?_
      refine v_iload aX7_more_118 rfl ?_
      refine v_cVe (c_X3_firstOf hP hg5 hN0 (hc.kp k3) k3.1 how hyr z1) aX7_more_120 mX3_firstOf vX3_firstOf lX7_163 hP.p rfl rfl rfl rfl rfl (Nat.le_of_ble_eq_true rfl) ⟨by dsimp only; omega, by dsimp only; omega⟩ (Nat.le_of_ble_eq_true rfl) (fun f μ4 ⟨f1, k4⟩ => ?_)
      have hr4 : RlAt μ4 x t := hrk _ (k3.trans k4)
      have fr : f = -1 ∨ (0 ≤ f ∧ f < gn) := by
        rcases f1 with q | q
        · exact Or.inl q.2
        · exact Or.inr q.2.1
      refine v_istore aX7_more_123 (Nat.le_of_ble_eq_true rfl) rfl ?_
      refine v_iload aX7_more_125 rfl ?_
      refine v_iconst aX7_more_127 ?_
      refine v_icmp_ne 136 rfl aX7_more_128 (by omega) (by omega) (fun c128 => ?_) (fun c128 => ?_)
      · --
        refine v_aload_n aX7_more_136 rfl ?_
        refine v_getr aX7_more_137 fX7_30 hX.p rfl rfl ?_
        refine v_iload aX7_more_140 rfl ?_
        refine v_cVe (c_X4_leaderOf hX.relation hr4.1 (by rw [hr4.2.1]; omega) hr4.2.2 (by rw [hr4.2.1]; omega)) aX7_more_142 mX4_leaderOf vX4_leaderOf lX7_167 hX.relation.p rfl rfl rfl rfl rfl (Nat.le_of_ble_eq_true rfl) ⟨by dsimp only; omega, by dsimp only; omega⟩ (Nat.le_of_ble_eq_true rfl) (fun v μ5 ⟨e5, v1⟩ => ?_)
        refine v_ireturn aX7_more_145 rfl ⟨Nat.le_refl _, Nat.le_refl _⟩ ?_
        subst e5
        rw [hr4.2.1] at v1
        refine hh _ _ (MoreQ_6 ⟨hs, by omega, hcan, by rw [← hgn]; exact hg5.2⟩ ⟨y, Or.inr ⟨by omega, y1⟩, fun q => absurd q (by omega), fun _ => ⟨f, ?_, Or.inr ⟨c128, v1⟩⟩⟩) (k3.trans k4)
        rw [← hgn, ← w2]; exact f1
      · --
        refine v_bipush (by decide) aX7_more_131 ?_
        refine v_goto 145 rfl aX7_more_133 ?_
        refine v_ireturn aX7_more_145 rfl ⟨Nat.le_refl _, Nat.le_refl _⟩ ?_
        refine hh _ _ (MoreQ_6 ⟨hs, by omega, hcan, by rw [← hgn]; exact hg5.2⟩ ⟨y, Or.inr ⟨by omega, y1⟩, fun q => absurd q (by omega), fun _ => ⟨f, ?_, Or.inl ⟨by omega, rfl⟩⟩⟩) (k3.trans k4)
        rw [← hgn, ← w2]; exact f1
    · --
      refine v_iload aX7_more_109 rfl ?_
      refine v_ireturn aX7_more_111 rfl ⟨Nat.le_refl _, Nat.le_refl _⟩ ?_
      refine hh _ _ (MoreQ_6 ⟨hs, by omega, hcan, by rw [← hgn]; exact hg5.2⟩ ⟨y, Or.inr ⟨by omega, y1⟩, fun _ => ?_, fun q => absurd q (by omega)⟩) k3
      rw [z1, w2, hgn]
  · --
    refine v_iconst aX7_more_73 ?_
    refine v_goto 85 rfl aX7_more_74 ?_
    refine v_istore aX7_more_85 (Nat.le_of_ble_eq_true rfl) rfl ?_
    refine v_aload_n aX7_more_87 rfl ?_
    refine v_iload_n aX7_more_88 rfl ?_
    refine v_cVe (c_X7_groupOrder hX hok hr hgn hg5.2 (by omega)) aX7_more_89 mX7_groupOrder vX7_groupOrder lX7_157 hX.p rfl rfl rfl rfl rfl (Nat.le_of_ble_eq_true rfl) ⟨by dsimp only; omega, by dsimp only; omega⟩ (Nat.le_of_ble_eq_true rfl) (fun ow μ2 ⟨e2, w1, w2⟩ => ?_)
    subst e2
    have hyr : -1 = -1 ∨ (0 ≤ -1 ∧ -1 < gn) := Or.inl rfl
    have how : OW gn ow := ⟨w1, by rw [w2, hgn]; exact GR_spo RT_Rg⟩
    refine v_istore aX7_more_92 (Nat.le_of_ble_eq_true rfl) rfl ?_
    refine v_aload aX7_more_94 rfl ?_
    refine v_iload aX7_more_96 rfl ?_
    refine v_iload aX7_more_98 rfl ?_
    refine v_cVe (c_X3_fewestLifts hP hg5 hN0 hc hm how hyr) aX7_more_100 mX3_fewestLifts vX3_fewestLifts lX7_160 hP.p rfl rfl rfl rfl rfl (Nat.le_of_ble_eq_true rfl) ⟨by dsimp only; omega, by dsimp only; omega⟩ (Nat.le_of_ble_eq_true rfl) (fun z μ3 ⟨z1, k3⟩ => ?_)
    refine v_istore aX7_more_103 (Nat.le_of_ble_eq_true rfl) rfl ?_
    have vr := vl_11 (G := gn) (R := RB ow) hg5 how.2 (-1)
    
    refine v_iload_n aX7_more_105 rfl ?_
    refine v_if_ne 112 rfl aX7_more_106 (by omega) (fun c106 => ?_) (fun c106 => ?_)
    · --
      refine v_aload aX7_more_112 rfl ?_
      refine v_iload aX7_more_114 rfl ?_
      refine v_iload aX7_more_116 rfl ?_
      refine v_iload aX7_more_118 rfl ?_
      refine v_cVe (c_X3_firstOf hP hg5 hN0 (hc.kp k3) k3.1 how hyr z1) aX7_more_120 mX3_firstOf vX3_firstOf lX7_163 hP.p rfl rfl rfl rfl rfl (Nat.le_of_ble_eq_true rfl) ⟨by dsimp only; omega, by dsimp only; omega⟩ (Nat.le_of_ble_eq_true rfl) (fun f μ4 ⟨f1, k4⟩ => ?_)
      have hr4 : RlAt μ4 x t := hrk _ (k3.trans k4)
      have fr : f = -1 ∨ (0 ≤ f ∧ f < gn) := by
        rcases f1 with q | q
        · exact Or.inl q.2
        · exact Or.inr q.2.1
      refine v_istore aX7_more_123 (Nat.le_of_ble_eq_true rfl) rfl ?_
      refine v_iload aX7_more_125 rfl ?_
      refine v_iconst aX7_more_127 ?_
      refine v_icmp_ne 136 rfl aX7_more_128 (by omega) (by omega) (fun c128 => ?_) (fun c128 => ?_)
      · --
        refine v_aload_n aX7_more_136 rfl ?_
        refine v_getr aX7_more_137 fX7_30 hX.p rfl rfl ?_
        refine v_iload aX7_more_140 rfl ?_
        refine v_cVe (c_X4_leaderOf hX.relation hr4.1 (by rw [hr4.2.1]; omega) hr4.2.2 (by rw [hr4.2.1]; omega)) aX7_more_142 mX4_leaderOf vX4_leaderOf lX7_167 hX.relation.p rfl rfl rfl rfl rfl (Nat.le_of_ble_eq_true rfl) ⟨by dsimp only; omega, by dsimp only; omega⟩ (Nat.le_of_ble_eq_true rfl) (fun v μ5 ⟨e5, v1⟩ => ?_)
        refine v_ireturn aX7_more_145 rfl ⟨Nat.le_refl _, Nat.le_refl _⟩ ?_
        subst e5
        rw [hr4.2.1] at v1
        refine hh _ _ (MoreQ_6 ⟨hs, by omega, hcan, by rw [← hgn]; exact hg5.2⟩ ⟨-1, Or.inl ⟨by omega, rfl⟩, fun q => absurd q (by omega), fun _ => ⟨f, ?_, Or.inr ⟨c128, v1⟩⟩⟩) (k3.trans k4)
        rw [← hgn, ← w2]; exact f1
      · --
        refine v_bipush (by decide) aX7_more_131 ?_
        refine v_goto 145 rfl aX7_more_133 ?_
        refine v_ireturn aX7_more_145 rfl ⟨Nat.le_refl _, Nat.le_refl _⟩ ?_
        refine hh _ _ (MoreQ_6 ⟨hs, by omega, hcan, by rw [← hgn]; exact hg5.2⟩ ⟨-1, Or.inl ⟨by omega, rfl⟩, fun q => absurd q (by omega), fun _ => ⟨f, ?_, Or.inl ⟨by omega, rfl⟩⟩⟩) (k3.trans k4)
        rw [← hgn, ← w2]; exact f1
    · --
      refine v_iload aX7_more_109 rfl ?_
      refine v_ireturn aX7_more_111 rfl ⟨Nat.le_refl _, Nat.le_refl _⟩ ?_
      refine hh _ _ (MoreQ_6 ⟨hs, by omega, hcan, by rw [← hgn]; exact hg5.2⟩ ⟨-1, Or.inl ⟨by omega, rfl⟩, fun _ => ?_, fun q => absurd q (by omega)⟩) k3
      rw [z1, w2, hgn]
set_option maxHeartbeats 4000000 in
set_option maxRecDepth 100000 in
theorem cR_X7_more {s w : Int} (hX : LsS S x im pl) (h : LsAt μ x t g n) (hok : StOk t B) (hs : (-2147483648 ≤ s ∧ s < 2147483648)) (hw : (-2147483648 ≤ w ∧ w < 2147483648)) (hex : MoreOk t s w → ∃ p : Nat, pl (gpn t).toNat = some p) (hpl : ∀ p : Nat, pl (gpn t).toNat = some p → x + 33 ≤ p ∧ PlnS S p (cdN (gpn t - 1).toNat) ∧ PlC μ p (gpn t) ∧ PlM μ p (gpn t)) : Ct l G cX7_more (yX7_more, 9, (some FieldType.int), 27, 0, 0) [.ref x, vi s, vi w] S μ (Re S (fun z μ' => MoreQ t s w z ∧ LsAt μ' x t g n ∧ (∀ a : Nat, (a < x ∨ x + 33 ≤ a) → (∀ p : Nat, pl (gpn t).toNat = some p → a ≠ p + 1) → μ' a = μ a) ∧ ∀ p : Nat, pl (gpn t).toNat = some p → PlM μ' p (gpn t))) := by
  obtain ⟨o1, o2, o3, o4, o5⟩ := id hok
  have f6 : μ (x + 3) 6 = t.1 := h.1.1
  have gr := gpn_r hok
  refine Ct.of (by decide) rfl (by simp [vi, Value.category]) (Nat.le_of_ble_eq_true rfl) ?_
  refine v_iload_n aX7_more_0 rfl ?_
  refine v_iconst aX7_more_1 ?_
  refine v_icmp_eq 18 rfl aX7_more_2 (by omega) (by omega) (fun c2 => ?_) (fun c2 => ?_)
  · --
    refine v_iload_n aX7_more_18 rfl ?_
    refine v_if_lt 27 rfl aX7_more_19 (by omega) (fun c19 => ?_) (fun c19 => ?_)
    · --
      refine v_bipush (by decide) aX7_more_27 ?_
      refine v_ireturn aX7_more_29 rfl ⟨Nat.le_refl _, Nat.le_refl _⟩ ?_
      exact ⟨_, rfl, rfl, MoreQ_2 (by omega) (by omega), h, fun _ _ _ => rfl, fun p q => (hpl p q).2.2.2⟩
    · --
      refine v_iload_n aX7_more_22 rfl ?_
      refine v_iconst aX7_more_23 ?_
      refine v_icmp_le 30 rfl aX7_more_24 (by omega) (by omega) (fun c24 => ?_) (fun c24 => ?_)
      · --
        refine v_aload_n aX7_more_30 rfl ?_
        refine v_cVe (c_X7_readBook hX h hok) aX7_more_31 mX7_readBook vX7_readBook lX7_97 hX.p rfl rfl rfl rfl rfl (Nat.le_of_ble_eq_true rfl) ⟨Nat.le_of_ble_eq_true rfl, Nat.le_of_ble_eq_true rfl⟩ (Nat.le_of_ble_eq_true rfl) (fun z μ' hz => ?_)
        obtain ⟨rfl, r1, r2, r3, r4, r5⟩ := hz
        refine v_if_ne_b 40 rfl aX7_more_34 (fun c34 => ?_) (fun c34 => ?_)
        · --
          refine v_aload_n aX7_more_40 rfl ?_
          refine v_getr aX7_more_41 fX7_30 hX.p rfl rfl ?_
          refine v_cVi (c_X4_groupCount hX.relation r3 (by omega) r5) aX7_more_44 mX4_groupCount vX4_groupCount lX7_109 hX.relation.p rfl rfl rfl rfl rfl (Nat.le_of_ble_eq_true rfl) ⟨Nat.le_of_ble_eq_true rfl, Nat.le_of_ble_eq_true rfl⟩ (Nat.le_of_ble_eq_true rfl) ?_
          rw [r4]
          have eg2 : gpn t = cntP (Ld (Rg t SA)) t.1.toNat := rfl
          rw [← eg2]
          refine v_istore_n aX7_more_47 (by decide) rfl ?_
          refine v_iload_n aX7_more_48 rfl ?_
          refine v_iconst aX7_more_49 ?_
          refine v_icmp_lt 58 rfl aX7_more_50 (by omega) (by omega) (fun c50 => ?_) (fun c50 => ?_)
          · --
            refine v_bipush (by decide) aX7_more_58 ?_
            refine v_ireturn aX7_more_60 rfl ⟨Nat.le_refl _, Nat.le_refl _⟩ ?_
            exact ⟨_, rfl, rfl, MoreQ_5 (by omega) (by omega) c34 (by omega), r1, fun a ha _ => r2 a (by omega), fun p q w hw1 hw2 => by rw [r2 (p + 1) (by have := (hpl p q).1; omega)]; exact (hpl p q).2.2.2 w hw1 hw2⟩
          · --
            refine v_iload_n aX7_more_53 rfl ?_
            refine v_iconst aX7_more_54 ?_
            refine v_icmp_le 61 rfl aX7_more_55 (by omega) (by omega) (fun c55 => ?_) (fun c55 => ?_)
            · --
              obtain ⟨p, hp⟩ := hex ⟨by omega, by omega, c34, by omega⟩
              obtain ⟨p1, p2, p3, p4⟩ := hpl p hp
              refine v_aload_n aX7_more_61 rfl ?_
              refine v_iload_n aX7_more_62 rfl ?_
              refine v_cV (cR_X7_plannerFor hX (by omega) hp) aX7_more_63 mX7_plannerFor vX7_plannerFor lX7_150 hX.p rfl rfl rfl rfl rfl (Nat.le_of_ble_eq_true rfl) ⟨Nat.le_of_ble_eq_true rfl, Nat.le_of_ble_eq_true rfl⟩ (Nat.le_of_ble_eq_true rfl) ?_
              rintro r S2 μ2 ⟨rfl, e1, e2⟩
              subst e1
              subst e2
              refine ct_X7_more hX r1 hok ⟨r3, r4, r5⟩ c34 (by omega) (by omega) rfl (by omega) p2 rfl (by unfold PlC; rw [r2 p (by omega)]; exact p3) (fun w hw1 hw2 => by rw [r2 (p + 1) (by omega)]; exact p4 w hw1 hw2) p1 (fun z μ' q1 q2 => ?_)
              refine ⟨_, rfl, rfl, q1, r1.kp (fun a a0 a1 => q2.2 a (by omega)), fun a ha ha2 => (q2.2 a (ha2 p hp)).trans (r2 a (by omega)), fun p' hp' => ?_⟩
              rw [hp] at hp'
              cases hp'
              exact q2.1
            · --
              refine v_bipush (by decide) aX7_more_58 ?_
              refine v_ireturn aX7_more_60 rfl ⟨Nat.le_refl _, Nat.le_refl _⟩ ?_
              exact ⟨_, rfl, rfl, MoreQ_5 (by omega) (by omega) c34 (by omega), r1, fun a ha _ => r2 a (by omega), fun p q w hw1 hw2 => by rw [r2 (p + 1) (by have := (hpl p q).1; omega)]; exact (hpl p q).2.2.2 w hw1 hw2⟩
        · --
          refine v_bipush (by decide) aX7_more_37 ?_
          refine v_ireturn aX7_more_39 rfl ⟨Nat.le_refl _, Nat.le_refl _⟩ ?_
          exact ⟨_, rfl, rfl, MoreQ_3 (by omega) (by omega) c34, r1, fun a ha _ => r2 a (by omega), fun p q w hw1 hw2 => by rw [r2 (p + 1) (by have := (hpl p q).1; omega)]; exact (hpl p q).2.2.2 w hw1 hw2⟩
      · --
        refine v_bipush (by decide) aX7_more_27 ?_
        refine v_ireturn aX7_more_29 rfl ⟨Nat.le_refl _, Nat.le_refl _⟩ ?_
        exact ⟨_, rfl, rfl, MoreQ_2 (by omega) (by omega), h, fun _ _ _ => rfl, fun p q => (hpl p q).2.2.2⟩
  · --
    refine v_aload_n aX7_more_5 rfl ?_
    refine v_getr aX7_more_6 fX7_19 hX.p rfl rfl ?_
    refine v_iload_n aX7_more_9 rfl ?_
    refine v_cVi (c_X0_has hX.book (by omega) (by omega)) aX7_more_10 mX0_has vX0_has lX7_93 hX.book.p rfl rfl rfl rfl rfl (Nat.le_of_ble_eq_true rfl) ⟨Nat.le_of_ble_eq_true rfl, Nat.le_of_ble_eq_true rfl⟩ (Nat.le_of_ble_eq_true rfl) ?_
    refine v_if_ne_b 18 rfl aX7_more_13 (fun c13 => ?_) (fun c13 => ?_)
    · --
      refine v_iload_n aX7_more_18 rfl ?_
      refine v_if_lt 27 rfl aX7_more_19 (by omega) (fun c19 => ?_) (fun c19 => ?_)
      · --
        refine v_bipush (by decide) aX7_more_27 ?_
        refine v_ireturn aX7_more_29 rfl ⟨Nat.le_refl _, Nat.le_refl _⟩ ?_
        exact ⟨_, rfl, rfl, MoreQ_2 (by omega) (by omega), h, fun _ _ _ => rfl, fun p q => (hpl p q).2.2.2⟩
      · --
        refine v_iload_n aX7_more_22 rfl ?_
        refine v_iconst aX7_more_23 ?_
        refine v_icmp_le 30 rfl aX7_more_24 (by omega) (by omega) (fun c24 => ?_) (fun c24 => ?_)
        · --
          refine v_aload_n aX7_more_30 rfl ?_
          refine v_cVe (c_X7_readBook hX h hok) aX7_more_31 mX7_readBook vX7_readBook lX7_97 hX.p rfl rfl rfl rfl rfl (Nat.le_of_ble_eq_true rfl) ⟨Nat.le_of_ble_eq_true rfl, Nat.le_of_ble_eq_true rfl⟩ (Nat.le_of_ble_eq_true rfl) (fun z μ' hz => ?_)
          obtain ⟨rfl, r1, r2, r3, r4, r5⟩ := hz
          refine v_if_ne_b 40 rfl aX7_more_34 (fun c34 => ?_) (fun c34 => ?_)
          · --
            refine v_aload_n aX7_more_40 rfl ?_
            refine v_getr aX7_more_41 fX7_30 hX.p rfl rfl ?_
            refine v_cVi (c_X4_groupCount hX.relation r3 (by omega) r5) aX7_more_44 mX4_groupCount vX4_groupCount lX7_109 hX.relation.p rfl rfl rfl rfl rfl (Nat.le_of_ble_eq_true rfl) ⟨Nat.le_of_ble_eq_true rfl, Nat.le_of_ble_eq_true rfl⟩ (Nat.le_of_ble_eq_true rfl) ?_
            rw [r4]
            have eg2 : gpn t = cntP (Ld (Rg t SA)) t.1.toNat := rfl
            rw [← eg2]
            refine v_istore_n aX7_more_47 (by decide) rfl ?_
            refine v_iload_n aX7_more_48 rfl ?_
            refine v_iconst aX7_more_49 ?_
            refine v_icmp_lt 58 rfl aX7_more_50 (by omega) (by omega) (fun c50 => ?_) (fun c50 => ?_)
            · --
              refine v_bipush (by decide) aX7_more_58 ?_
              refine v_ireturn aX7_more_60 rfl ⟨Nat.le_refl _, Nat.le_refl _⟩ ?_
              exact ⟨_, rfl, rfl, MoreQ_5 (by omega) (by omega) c34 (by omega), r1, fun a ha _ => r2 a (by omega), fun p q w hw1 hw2 => by rw [r2 (p + 1) (by have := (hpl p q).1; omega)]; exact (hpl p q).2.2.2 w hw1 hw2⟩
            · --
              refine v_iload_n aX7_more_53 rfl ?_
              refine v_iconst aX7_more_54 ?_
              refine v_icmp_le 61 rfl aX7_more_55 (by omega) (by omega) (fun c55 => ?_) (fun c55 => ?_)
              · --
                obtain ⟨p, hp⟩ := hex ⟨by omega, by omega, c34, by omega⟩
                obtain ⟨p1, p2, p3, p4⟩ := hpl p hp
                refine v_aload_n aX7_more_61 rfl ?_
                refine v_iload_n aX7_more_62 rfl ?_
                refine v_cV (cR_X7_plannerFor hX (by omega) hp) aX7_more_63 mX7_plannerFor vX7_plannerFor lX7_150 hX.p rfl rfl rfl rfl rfl (Nat.le_of_ble_eq_true rfl) ⟨Nat.le_of_ble_eq_true rfl, Nat.le_of_ble_eq_true rfl⟩ (Nat.le_of_ble_eq_true rfl) ?_
                rintro r S2 μ2 ⟨rfl, e1, e2⟩
                subst e1
                subst e2
                refine ct_X7_more hX r1 hok ⟨r3, r4, r5⟩ c34 (by omega) (by omega) rfl (by omega) p2 rfl (by unfold PlC; rw [r2 p (by omega)]; exact p3) (fun w hw1 hw2 => by rw [r2 (p + 1) (by omega)]; exact p4 w hw1 hw2) p1 (fun z μ' q1 q2 => ?_)
                refine ⟨_, rfl, rfl, q1, r1.kp (fun a a0 a1 => q2.2 a (by omega)), fun a ha ha2 => (q2.2 a (ha2 p hp)).trans (r2 a (by omega)), fun p' hp' => ?_⟩
                rw [hp] at hp'
                cases hp'
                exact q2.1
              · --
                refine v_bipush (by decide) aX7_more_58 ?_
                refine v_ireturn aX7_more_60 rfl ⟨Nat.le_refl _, Nat.le_refl _⟩ ?_
                exact ⟨_, rfl, rfl, MoreQ_5 (by omega) (by omega) c34 (by omega), r1, fun a ha _ => r2 a (by omega), fun p q w hw1 hw2 => by rw [r2 (p + 1) (by have := (hpl p q).1; omega)]; exact (hpl p q).2.2.2 w hw1 hw2⟩
          · --
            refine v_bipush (by decide) aX7_more_37 ?_
            refine v_ireturn aX7_more_39 rfl ⟨Nat.le_refl _, Nat.le_refl _⟩ ?_
            exact ⟨_, rfl, rfl, MoreQ_3 (by omega) (by omega) c34, r1, fun a ha _ => r2 a (by omega), fun p q w hw1 hw2 => by rw [r2 (p + 1) (by have := (hpl p q).1; omega)]; exact (hpl p q).2.2.2 w hw1 hw2⟩
        · --
          refine v_bipush (by decide) aX7_more_27 ?_
          refine v_ireturn aX7_more_29 rfl ⟨Nat.le_refl _, Nat.le_refl _⟩ ?_
          exact ⟨_, rfl, rfl, MoreQ_2 (by omega) (by omega), h, fun _ _ _ => rfl, fun p q => (hpl p q).2.2.2⟩
    · --
      refine v_iconst aX7_more_16 ?_
      refine v_ireturn aX7_more_17 rfl ⟨Nat.le_refl _, Nat.le_refl _⟩ ?_
      exact ⟨_, rfl, rfl, MoreQ_1 (by omega), h, fun _ _ _ => rfl, fun p q => (hpl p q).2.2.2⟩
set_option maxHeartbeats 4000000 in
set_option maxRecDepth 100000 in
theorem cN_X7_more {s w : Int} (hX : LsS S x im pl) (h : LsAt μ x t g n) (hok : StOk t B) (hs : (-2147483648 ≤ s ∧ s < 2147483648)) (hw : (-2147483648 ≤ w ∧ w < 2147483648)) (hmo : MoreOk t s w) (hN0 : N0 = cdN (gpn t - 1).toNat) (hpl : pl (gpn t).toNat = none) (hS : S.1 = q) (hd : x + 33 ≤ q) : Ct l G cX7_more (yX7_more, 9, (some FieldType.int), 27, 2, 3 + N0) [.ref x, vi s, vi w] S μ (fun r S' μ' => ∃ z : Int, r = some (vi z) ∧ MoreQ t s w z ∧ S'.1 = q + 2 ∧ LsS S' x im (fun j => if j = (gpn t).toNat then some q else pl j) ∧ PlnS S' q (cdN (gpn t - 1).toNat) ∧ PlC μ' q (gpn t) ∧ PlM μ' q (gpn t) ∧ (∀ a, a < q → a ≠ x + 32 → S'.2 a = S.2 a) ∧ LsAt μ' x t g n ∧ ∀ a, a < q → (a < x ∨ x + 33 ≤ a) → μ' a = μ a) := by
  obtain ⟨o1, o2, o3, o4, o5⟩ := id hok
  have f6 : μ (x + 3) 6 = t.1 := h.1.1
  have gr := gpn_r hok
  refine Ct.of (show plainName yX7_more.cls = true by decide) rfl (by simp [vi, Value.category]) (Nat.le_of_ble_eq_true rfl) ?_
  refine v_iload_n aX7_more_0 rfl ?_
  refine v_iconst aX7_more_1 ?_
  refine v_icmp_eq 18 rfl aX7_more_2 (by omega) (by omega) (fun c2 => ?_) (fun c2 => ?_)
  · --
    refine v_iload_n aX7_more_18 rfl ?_
    refine v_if_lt 27 rfl aX7_more_19 (by omega) (fun c19 => ?_) (fun c19 => ?_)
    · --
      refine v_bipush (by decide) aX7_more_27 ?_
      refine v_ireturn aX7_more_29 rfl ⟨by dsimp only; omega, by dsimp only; omega⟩ ?_
      exact absurd hmo.2.1 (by omega)
    · --
      refine v_iload_n aX7_more_22 rfl ?_
      refine v_iconst aX7_more_23 ?_
      refine v_icmp_le 30 rfl aX7_more_24 (by omega) (by omega) (fun c24 => ?_) (fun c24 => ?_)
      · --
        refine v_aload_n aX7_more_30 rfl ?_
        refine v_cVe (c_X7_readBook hX h hok) aX7_more_31 mX7_readBook vX7_readBook lX7_97 hX.p rfl rfl rfl rfl rfl (Nat.le_of_ble_eq_true rfl) ⟨by dsimp only; omega, by dsimp only; omega⟩ (Nat.le_of_ble_eq_true rfl) (fun z μ' hz => ?_)
        obtain ⟨rfl, r1, r2, r3, r4, r5⟩ := hz
        refine v_if_ne_b 40 rfl aX7_more_34 (fun c34 => ?_) (fun c34 => ?_)
        · --
          refine v_aload_n aX7_more_40 rfl ?_
          refine v_getr aX7_more_41 fX7_30 hX.p rfl rfl ?_
          refine v_cVi (c_X4_groupCount hX.relation r3 (by omega) r5) aX7_more_44 mX4_groupCount vX4_groupCount lX7_109 hX.relation.p rfl rfl rfl rfl rfl (Nat.le_of_ble_eq_true rfl) ⟨by dsimp only; omega, by dsimp only; omega⟩ (Nat.le_of_ble_eq_true rfl) ?_
          rw [r4]
          have eg2 : gpn t = cntP (Ld (Rg t SA)) t.1.toNat := rfl
          rw [← eg2]
          refine v_istore_n aX7_more_47 (Nat.le_of_ble_eq_true rfl) rfl ?_
          refine v_iload_n aX7_more_48 rfl ?_
          refine v_iconst aX7_more_49 ?_
          refine v_icmp_lt 58 rfl aX7_more_50 (by omega) (by omega) (fun c50 => ?_) (fun c50 => ?_)
          · --
            refine v_bipush (by decide) aX7_more_58 ?_
            refine v_ireturn aX7_more_60 rfl ⟨by dsimp only; omega, by dsimp only; omega⟩ ?_
            exact absurd hmo.2.2.2 (by omega)
          · --
            refine v_iload_n aX7_more_53 rfl ?_
            refine v_iconst aX7_more_54 ?_
            refine v_icmp_le 61 rfl aX7_more_55 (by omega) (by omega) (fun c55 => ?_) (fun c55 => ?_)
            · --
              refine v_aload_n aX7_more_61 rfl ?_
              refine v_iload_n aX7_more_62 rfl ?_
              refine v_callV [vi (gpn t)] (cN_X7_plannerFor hX (by omega) hN0 hpl hS hd) aX7_more_63 mX7_plannerFor vX7_plannerFor lX7_150 hX.p rfl rfl rfl rfl rfl (Nat.le_of_ble_eq_true rfl) ⟨by dsimp only; omega, by dsimp only; omega⟩ (Nat.le_of_ble_eq_true rfl) ?_
              rintro r S2 μ2 ⟨rfl, z2, hX2, hQ2, hc2, hm2, e2, m2⟩
              rw [show ((0, 0) : Nat × Nat).1 + 2 = 2 from rfl, show ((0, 0) : Nat × Nat).2 + (3 + N0) = 3 + N0 from Nat.zero_add _]
              refine ct_X7_more hX2 (r1.kp (fun a a0 a1 => m2 a (by omega))) hok ⟨by rw [m2 _ (by omega)]; exact r3, by rw [m2 _ (by omega)]; exact r4, by rw [m2 (x + 23) (by omega)]; exact r5⟩ c34 (by omega) (by omega) rfl (by omega) hQ2 hN0 hc2 (PlM_0 hm2) hd (fun z μ' q1 q2 => ?_)
              exact ⟨z, rfl, q1, z2, hX2, by rw [← hN0]; exact hQ2, hc2.kp q2, q2.1, e2, r1.kp (fun a a0 a1 => (q2.2 a (by omega)).trans (m2 a (by omega))), fun a ha ha2 => (q2.2 a (by omega)).trans ((m2 a ha).trans (r2 a (by omega)))⟩
            · --
              refine v_bipush (by decide) aX7_more_58 ?_
              refine v_ireturn aX7_more_60 rfl ⟨by dsimp only; omega, by dsimp only; omega⟩ ?_
              exact absurd hmo.2.2.2 (by omega)
        · --
          refine v_bipush (by decide) aX7_more_37 ?_
          refine v_ireturn aX7_more_39 rfl ⟨by dsimp only; omega, by dsimp only; omega⟩ ?_
          exact absurd hmo.2.2.1 c34
      · --
        refine v_bipush (by decide) aX7_more_27 ?_
        refine v_ireturn aX7_more_29 rfl ⟨by dsimp only; omega, by dsimp only; omega⟩ ?_
        exact absurd hmo.2.1 (by omega)
  · --
    refine v_aload_n aX7_more_5 rfl ?_
    refine v_getr aX7_more_6 fX7_19 hX.p rfl rfl ?_
    refine v_iload_n aX7_more_9 rfl ?_
    refine v_cVi (c_X0_has hX.book (by omega) (by omega)) aX7_more_10 mX0_has vX0_has lX7_93 hX.book.p rfl rfl rfl rfl rfl (Nat.le_of_ble_eq_true rfl) ⟨by dsimp only; omega, by dsimp only; omega⟩ (Nat.le_of_ble_eq_true rfl) ?_
    refine v_if_ne_b 18 rfl aX7_more_13 (fun c13 => ?_) (fun c13 => ?_)
    · --
      refine v_iload_n aX7_more_18 rfl ?_
      refine v_if_lt 27 rfl aX7_more_19 (by omega) (fun c19 => ?_) (fun c19 => ?_)
      · --
        refine v_bipush (by decide) aX7_more_27 ?_
        refine v_ireturn aX7_more_29 rfl ⟨by dsimp only; omega, by dsimp only; omega⟩ ?_
        exact absurd hmo.2.1 (by omega)
      · --
        refine v_iload_n aX7_more_22 rfl ?_
        refine v_iconst aX7_more_23 ?_
        refine v_icmp_le 30 rfl aX7_more_24 (by omega) (by omega) (fun c24 => ?_) (fun c24 => ?_)
        · --
          refine v_aload_n aX7_more_30 rfl ?_
          refine v_cVe (c_X7_readBook hX h hok) aX7_more_31 mX7_readBook vX7_readBook lX7_97 hX.p rfl rfl rfl rfl rfl (Nat.le_of_ble_eq_true rfl) ⟨by dsimp only; omega, by dsimp only; omega⟩ (Nat.le_of_ble_eq_true rfl) (fun z μ' hz => ?_)
          obtain ⟨rfl, r1, r2, r3, r4, r5⟩ := hz
          refine v_if_ne_b 40 rfl aX7_more_34 (fun c34 => ?_) (fun c34 => ?_)
          · --
            refine v_aload_n aX7_more_40 rfl ?_
            refine v_getr aX7_more_41 fX7_30 hX.p rfl rfl ?_
            refine v_cVi (c_X4_groupCount hX.relation r3 (by omega) r5) aX7_more_44 mX4_groupCount vX4_groupCount lX7_109 hX.relation.p rfl rfl rfl rfl rfl (Nat.le_of_ble_eq_true rfl) ⟨by dsimp only; omega, by dsimp only; omega⟩ (Nat.le_of_ble_eq_true rfl) ?_
            rw [r4]
            have eg2 : gpn t = cntP (Ld (Rg t SA)) t.1.toNat := rfl
            rw [← eg2]
            refine v_istore_n aX7_more_47 (Nat.le_of_ble_eq_true rfl) rfl ?_
            refine v_iload_n aX7_more_48 rfl ?_
            refine v_iconst aX7_more_49 ?_
            refine v_icmp_lt 58 rfl aX7_more_50 (by omega) (by omega) (fun c50 => ?_) (fun c50 => ?_)
            · --
              refine v_bipush (by decide) aX7_more_58 ?_
              refine v_ireturn aX7_more_60 rfl ⟨by dsimp only; omega, by dsimp only; omega⟩ ?_
              exact absurd hmo.2.2.2 (by omega)
            · --
              refine v_iload_n aX7_more_53 rfl ?_
              refine v_iconst aX7_more_54 ?_
              refine v_icmp_le 61 rfl aX7_more_55 (by omega) (by omega) (fun c55 => ?_) (fun c55 => ?_)
              · --
                refine v_aload_n aX7_more_61 rfl ?_
                refine v_iload_n aX7_more_62 rfl ?_
                refine v_callV [vi (gpn t)] (cN_X7_plannerFor hX (by omega) hN0 hpl hS hd) aX7_more_63 mX7_plannerFor vX7_plannerFor lX7_150 hX.p rfl rfl rfl rfl rfl (Nat.le_of_ble_eq_true rfl) ⟨by dsimp only; omega, by dsimp only; omega⟩ (Nat.le_of_ble_eq_true rfl) ?_
                rintro r S2 μ2 ⟨rfl, z2, hX2, hQ2, hc2, hm2, e2, m2⟩
                rw [show ((0, 0) : Nat × Nat).1 + 2 = 2 from rfl, show ((0, 0) : Nat × Nat).2 + (3 + N0) = 3 + N0 from Nat.zero_add _]
                refine ct_X7_more hX2 (r1.kp (fun a a0 a1 => m2 a (by omega))) hok ⟨by rw [m2 _ (by omega)]; exact r3, by rw [m2 _ (by omega)]; exact r4, by rw [m2 (x + 23) (by omega)]; exact r5⟩ c34 (by omega) (by omega) rfl (by omega) hQ2 hN0 hc2 (PlM_0 hm2) hd (fun z μ' q1 q2 => ?_)
                exact ⟨z, rfl, q1, z2, hX2, by rw [← hN0]; exact hQ2, hc2.kp q2, q2.1, e2, r1.kp (fun a a0 a1 => (q2.2 a (by omega)).trans (m2 a (by omega))), fun a ha ha2 => (q2.2 a (by omega)).trans ((m2 a ha).trans (r2 a (by omega)))⟩
              · --
                refine v_bipush (by decide) aX7_more_58 ?_
                refine v_ireturn aX7_more_60 rfl ⟨by dsimp only; omega, by dsimp only; omega⟩ ?_
                exact absurd hmo.2.2.2 (by omega)
          · --
            refine v_bipush (by decide) aX7_more_37 ?_
            refine v_ireturn aX7_more_39 rfl ⟨by dsimp only; omega, by dsimp only; omega⟩ ?_
            exact absurd hmo.2.2.1 c34
        · --
          refine v_bipush (by decide) aX7_more_27 ?_
          refine v_ireturn aX7_more_29 rfl ⟨by dsimp only; omega, by dsimp only; omega⟩ ?_
          exact absurd hmo.2.1 (by omega)
    · --
      refine v_iconst aX7_more_16 ?_
      refine v_ireturn aX7_more_17 rfl ⟨by dsimp only; omega, by dsimp only; omega⟩ ?_
      exact absurd hmo.1 (by omega)
end MORE
