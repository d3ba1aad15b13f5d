/-! the law: the calls that make cells, its loop, its entry -/
theorem Lay.im {N xa j : Nat} {im pl : Nat → Option Nat} (h : Lay N xa im pl) (hj : j < 2) (hn : im j = none) : Lay (N + 19) xa (fun a => if a = j then some N else im a) pl := by
  obtain ⟨l1, l2, l3, l4, l5, l6⟩ := h
  have hpl : ∀ k p : Nat, (if k = j then some N else im k) = some p → (k = j ∧ p = N) ∨ (k ≠ j ∧ im k = some p) := fun k p hp => by
    by_cases e : k = j
    · rw [if_pos e] at hp; cases hp; exact Or.inl ⟨e, rfl⟩
    · rw [if_neg e] at hp; exact Or.inr ⟨e, hp⟩
  refine ⟨by omega, fun i q hi => ?_, fun k p hp => by have := l3 k p hp; omega, fun a c q r ne hq hr => ?_, fun i k q p hi hp => ?_, l6⟩
  · rcases hpl i q hi with ⟨a1, a2⟩ | ⟨a1, a2⟩
    · omega
    · have := l2 i q a2; omega
  · rcases hpl a q hq with ⟨a1, a2⟩ | ⟨a1, a2⟩ <;> rcases hpl c r hr with ⟨c1, c2⟩ | ⟨c1, c2⟩
    · exact absurd (a1.trans c1.symm) ne
    · have := l2 c r c2; omega
    · have := l2 a q a2; omega
    · exact l4 a c q r ne a2 c2
  · have := l3 k p hp
    rcases hpl i q hi with ⟨a1, a2⟩ | ⟨a1, a2⟩
    · omega
    · exact l5 i k q p a2 hp
section LAW2
variable {l : Launch} {G : Glb} {P : Pst} {k : Nat × Nat} {S : Sh} {μ : Mu} {xa : Nat} {im pl : Nat → Option Nat} {t : BSt} {g : Int → Int} {n B i : Int}
set_option maxHeartbeats 4000000 in
set_option maxRecDepth 100000 in
theorem lw_687 (hs : Sim S μ xa im pl t g n B) (hk : KB k im pl) (hB : 0 ≤ B ∧ B ≤ 50000) (hi : 0 ≤ i ∧ i + 4 ≤ (G.2.2.2.2.2.1 : Int)) (hL : G.2.2.2.2.2.1 ≤ 2048) (hh : ∀ (k' : Nat × Nat) (S' : Sh) (μ' : Mu) (im' pl' : Nat → Option Nat) (t' : BSt) (g' : Int → Int) (n' : Int), Sim S' μ' xa im' pl' t' g' n' (B + 42) → KB k' im' pl' → V l G code (x, 4, ret, 1300, 600000, 7302250) P k' S' μ' 756 [.ref G.2.2.2.2.1, .ref xa, .ref (xa + 33), vi i] []) : V l G code (x, 4, ret, 1300, 600000, 7302250) P k S μ 687 [.ref G.2.2.2.2.1, .ref xa, .ref (xa + 33), vi i] [] := by
  have hX := hs.1.1
  have hM := hs.1.2.1
  have hl := hs.2.1
  have hm := hs.2.2.1
  have hok := hs.2.2.2.1
  have hp := hs.2.2.2.2.1
  have hkk : k.1 ≤ 600000 ∧ k.2 ≤ 7302250 := by unfold KB at hk; omega
  have hlay := hs.1.2.2
  have hrst := hs.2.2.2.2.2
  by_cases ho : 0 ≤ (SC G (i + 1)) ∧ (SC G (i + 1)) ≤ 1
  · have hcast : (((SC G (i + 1)).toNat : Nat) : Int) = (SC G (i + 1)) := by omega
    cases him : im (SC G (i + 1)).toNat with
    | none =>
      have p1 := Pot_im (v := 19) (w := 2) (q := S.1) (pl := pl) (i := (SC G (i + 1)).toNat) (by omega) him
      have p2 := Pot_im (v := 111) (w := 59052) (q := S.1) (pl := pl) (i := (SC G (i + 1)).toNat) (by omega) him
      have hkk2 : k.1 + 19 ≤ 600000 ∧ k.2 + 111 ≤ 7302250 := by unfold KB at hk; omega
      have hkb : KB (k.1 + 19, k.2 + 111) (fun a => if a = (SC G (i + 1)).toNat then some S.1 else im a) pl := by unfold KB at hk ⊢; dsimp only; omega
      refine v_aload_n aL_law_687 rfl ?_
      refine v_aload_n aL_law_688 rfl ?_
      refine v_iload_n aL_law_689 rfl ?_
      refine v_iconst aL_law_690 ?_
      refine v_iadd aL_law_691 ?_
      refine v_sld aL_law_692 (by omega) (by omega) ?_
      refine v_callV [vi (SC G (i + 1))] (cN_X7_image hX hl ho him rfl (by have := hlay.1; omega)) aL_law_693 mX7_image vX7_image lL_101 hX.p rfl rfl rfl rfl rfl (Nat.le_of_ble_eq_true rfl) hkk2 (Nat.le_of_ble_eq_true rfl) ?_
      rintro r S2 μ2 ⟨rfl, z2, hX2, hQ2, hb2, e2, m2⟩
      have hM2 : ModS S2 (xa + 33) := hM.kept (fun a a0 a1 => e2 a (by have := hlay.1; omega) (by omega))
      have hmo : MoAt μ2 (xa + 33) t g n := hm.kept (fun r r0 r1 => m2 r (by have := hlay.1; omega))
      refine v_aload_n aL_law_696 rfl ?_
      refine v_aload_n aL_law_697 rfl ?_
      refine v_iload_n aL_law_698 rfl ?_
      refine v_iconst aL_law_699 ?_
      refine v_iadd aL_law_700 ?_
      refine v_sld aL_law_701 (by omega) (by omega) ?_
      refine v_cVe (c_X8_image hM2 hmo SC_r) aL_law_702 mX8_image vX8_image lL_104 hM2.p rfl rfl rfl rfl rfl (Nat.le_of_ble_eq_true rfl) hkk2 (Nat.le_of_ble_eq_true rfl) (fun z3 μ3 ⟨q1, q2⟩ => ?_)
      obtain ⟨f1, f2, f3, f4, f5⟩ := q1 ho
      rw [show xa + 33 + 20 = xa + 53 by omega] at f2 f3
      rw [show xa + 33 + 21 = xa + 54 by omega] at f4
      have f5' : ∀ r : Nat, r ≠ xa + 53 → r ≠ xa + 54 → μ3 r = μ2 r := fun r r0 r1 => f5 r (by omega) (by omega)
      subst f1
      refine v_icmp_eqS 756 rfl aL_law_705 ?_
      have hLay : Lay S2.1 xa (fun a => if a = (SC G (i + 1)).toNat then some S.1 else im a) pl := by rw [z2]; exact hlay.im (by omega) him
      have hn := hlay.1
      have hsim := hs.img (S' := S2) (μ2 := μ3) (j := (SC G (i + 1)).toNat) (q := S.1) (by omega) ⟨hX2, hM2, hLay⟩ (hl.kept (fun r r0 r1 => (f5' r (by omega) (by omega)).trans (m2 r (by omega)))) (hmo.kept (fun r r0 r1 => f5' r (by omega) (by omega))) hQ2 (hb2.kept (fun r r0 r1 => f5' r (by omega) (by omega))) (by rw [hcast]; exact f2) (fun w hw => (f3 w (by omega)).trans (by rw [m2 _ (by omega)])) (by rw [hcast, f4, m2 _ (by omega)]) (fun r r0 r1 r2 => ⟨(f5' r (by omega) (by omega)).trans (m2 r (by omega)), e2 r (by omega) (by omega)⟩)
      exact hh _ _ _ _ _ _ _ _ (hsim.mono (by omega)) hkb
    | some q =>
      have hq := (hlay.2.1 _ _ him).2
      have hQ : BookS S q := by
        rcases hrst.1 (SC G (i + 1)).toNat (by omega) with ⟨a1, a2⟩ | ⟨q', t', a1, a2, a3, a4, a5, a6⟩
        · rw [him] at a1; cases a1
        · rw [him] at a1; cases a1; exact a2
      refine v_aload_n aL_law_687 rfl ?_
      refine v_aload_n aL_law_688 rfl ?_
      refine v_iload_n aL_law_689 rfl ?_
      refine v_iconst aL_law_690 ?_
      refine v_iadd aL_law_691 ?_
      refine v_sld aL_law_692 (by omega) (by omega) ?_
      refine v_cVe (cR_X7_image hX hl ho him hQ (by omega)) aL_law_693 mX7_image vX7_image lL_101 hX.p rfl rfl rfl rfl rfl (Nat.le_of_ble_eq_true rfl) hkk (Nat.le_of_ble_eq_true rfl) (fun z1 μ2 ⟨e1, b1, o1⟩ => ?_)
      have hmo : MoAt μ2 (xa + 33) t g n := hm.kept (fun r r0 r1 => o1 r (by omega))
      refine v_aload_n aL_law_696 rfl ?_
      refine v_aload_n aL_law_697 rfl ?_
      refine v_iload_n aL_law_698 rfl ?_
      refine v_iconst aL_law_699 ?_
      refine v_iadd aL_law_700 ?_
      refine v_sld aL_law_701 (by omega) (by omega) ?_
      refine v_cVe (c_X8_image hM hmo SC_r) aL_law_702 mX8_image vX8_image lL_104 hM.p rfl rfl rfl rfl rfl (Nat.le_of_ble_eq_true rfl) hkk (Nat.le_of_ble_eq_true rfl) (fun z3 μ3 ⟨q1, q2⟩ => ?_)
      obtain ⟨f1, f2, f3, f4, f5⟩ := q1 ho
      rw [show xa + 33 + 20 = xa + 53 by omega] at f2 f3
      rw [show xa + 33 + 21 = xa + 54 by omega] at f4
      have f5' : ∀ r : Nat, r ≠ xa + 53 → r ≠ xa + 54 → μ3 r = μ2 r := fun r r0 r1 => f5 r (by omega) (by omega)
      subst f1
      subst e1
      refine v_icmp_eqS 756 rfl aL_law_705 ?_
      have e : (fun a => if a = (SC G (i + 1)).toNat then some q else im a) = im := funext fun a => by
        by_cases z : a = (SC G (i + 1)).toNat
        · rw [if_pos z, z, him]
        · rw [if_neg z]
      have hsim := hs.img (S' := S) (μ2 := μ3) (j := (SC G (i + 1)).toNat) (q := q) (by omega) ⟨by rw [e]; exact hX, hM, by rw [e]; exact hlay⟩ (hl.kept (fun r r0 r1 => (f5' r (by omega) (by omega)).trans (o1 r (by omega)))) (hmo.kept (fun r r0 r1 => f5' r (by omega) (by omega))) hQ (b1.kept (fun r r0 r1 => f5' r (by omega) (by omega))) (by rw [hcast]; exact f2) (fun w hw => (f3 w (by omega)).trans (by rw [o1 _ (by omega)])) (by rw [hcast, f4, o1 _ (by omega)]) (fun r r0 r1 r2 => ⟨(f5' r (by omega) (by omega)).trans (o1 r (by omega)), rfl⟩)
      rw [e] at hsim
      exact hh _ _ _ _ _ _ _ _ (hsim.mono (by omega)) hk
  · --
    refine v_aload_n aL_law_687 rfl ?_
    refine v_aload_n aL_law_688 rfl ?_
    refine v_iload_n aL_law_689 rfl ?_
    refine v_iconst aL_law_690 ?_
    refine v_iadd aL_law_691 ?_
    refine v_sld aL_law_692 (by omega) (by omega) ?_
    refine v_cVi (cO_X7_image hX hl SC_r ho) aL_law_693 mX7_image vX7_image lL_101 hX.p rfl rfl rfl rfl rfl (Nat.le_of_ble_eq_true rfl) hkk (Nat.le_of_ble_eq_true rfl) ?_
    refine v_aload_n aL_law_696 rfl ?_
    refine v_aload_n aL_law_697 rfl ?_
    refine v_iload_n aL_law_698 rfl ?_
    refine v_iconst aL_law_699 ?_
    refine v_iadd aL_law_700 ?_
    refine v_sld aL_law_701 (by omega) (by omega) ?_
    refine v_cVe (c_X8_image hM hm SC_r) aL_law_702 mX8_image vX8_image lL_104 hM.p rfl rfl rfl rfl rfl (Nat.le_of_ble_eq_true rfl) hkk (Nat.le_of_ble_eq_true rfl) (fun z3 μ3 ⟨q1, q2⟩ => ?_)
    obtain ⟨f1, f2⟩ := q2 ho
    subst f1
    subst f2
    refine v_icmp_eqS 756 rfl aL_law_705 ?_
    exact hh _ _ _ _ _ _ _ _ (hs.mono (by omega)) hk
set_option maxHeartbeats 4000000 in
set_option maxRecDepth 100000 in
theorem lw_710 (hs : Sim S μ xa im pl t g n B) (hk : KB k im pl) (hB : 0 ≤ B ∧ B ≤ 50000) (hi : 0 ≤ i ∧ i + 4 ≤ (G.2.2.2.2.2.1 : Int)) (hL : G.2.2.2.2.2.1 ≤ 2048) (hh : ∀ (k' : Nat × Nat) (S' : Sh) (μ' : Mu) (im' pl' : Nat → Option Nat) (t' : BSt) (g' : Int → Int) (n' : Int), Sim S' μ' xa im' pl' t' g' n' (B + 42) → KB k' im' pl' → V l G code (x, 4, ret, 1300, 600000, 7302250) P k' S' μ' 756 [.ref G.2.2.2.2.1, .ref xa, .ref (xa + 33), vi i] []) : V l G code (x, 4, ret, 1300, 600000, 7302250) P k S μ 710 [.ref G.2.2.2.2.1, .ref xa, .ref (xa + 33), vi i] [] := by
  have hX := hs.1.1
  have hM := hs.1.2.1
  have hl := hs.2.1
  have hm := hs.2.2.1
  have hok := hs.2.2.2.1
  have hp := hs.2.2.2.2.1
  have hkk : k.1 ≤ 600000 ∧ k.2 ≤ 7302250 := by unfold KB at hk; omega
  have hlay := hs.1.2.2
  have hrst := hs.2.2.2.2.2
  by_cases ho : 0 ≤ (SC G (i + 1)) ∧ (SC G (i + 1)) ≤ 1
  · have hcast : (((SC G (i + 1)).toNat : Nat) : Int) = (SC G (i + 1)) := by omega
    rcases hrst.1 (SC G (i + 1)).toNat (by omega) with ⟨him, hz0⟩ | ⟨q, t', him, hQ, hbk, hmi, hz1, hok'⟩
    · rw [hcast] at hz0
      refine v_aload_n aL_law_710 rfl ?_
      refine v_aload_n aL_law_711 rfl ?_
      refine v_iload_n aL_law_712 rfl ?_
      refine v_iconst aL_law_713 ?_
      refine v_iadd aL_law_714 ?_
      refine v_sld aL_law_715 (by omega) (by omega) ?_
      refine v_cVi (cN_X7_restore hX hl ho him) aL_law_716 mX7_restore vX7_restore lL_105 hX.p rfl rfl rfl rfl rfl (Nat.le_of_ble_eq_true rfl) hkk (Nat.le_of_ble_eq_true rfl) ?_
      refine v_aload_n aL_law_719 rfl ?_
      refine v_aload_n aL_law_720 rfl ?_
      refine v_iload_n aL_law_721 rfl ?_
      refine v_iconst aL_law_722 ?_
      refine v_iadd aL_law_723 ?_
      refine v_sld aL_law_724 (by omega) (by omega) ?_
      refine v_cVe (c_X8_restore hM hm SC_r (by rw [show xa + 33 + 21 = xa + 54 by omega]; exact hrst.2.2 _)) aL_law_725 mX8_restore vX8_restore lL_108 hM.p rfl rfl rfl rfl rfl (Nat.le_of_ble_eq_true rfl) hkk (Nat.le_of_ble_eq_true rfl) (fun z3 μ3 ⟨q1, q2, q3⟩ => ?_)
      obtain ⟨f1, f2⟩ := q2 ho (by rw [show xa + 33 + 21 = xa + 54 by omega]; exact hz0)
      subst f1
      subst f2
      refine v_icmp_eqS 756 rfl aL_law_728 ?_
      exact hh _ _ _ _ _ _ _ _ (hs.mono (by omega)) hk
    · rw [hcast] at hz1 hmi
      have hq := (hlay.2.1 _ _ him).2
      refine v_aload_n aL_law_710 rfl ?_
      refine v_aload_n aL_law_711 rfl ?_
      refine v_iload_n aL_law_712 rfl ?_
      refine v_iconst aL_law_713 ?_
      refine v_iadd aL_law_714 ?_
      refine v_sld aL_law_715 (by omega) (by omega) ?_
      refine v_cVe (cR_X7_restore hX hl ho him hQ hbk (by omega)) aL_law_716 mX7_restore vX7_restore lL_105 hX.p rfl rfl rfl rfl rfl (Nat.le_of_ble_eq_true rfl) hkk (Nat.le_of_ble_eq_true rfl) (fun z1 μ1 ⟨e1, h1, o1⟩ => ?_)
      have hmo := hs.mo o1
      refine v_aload_n aL_law_719 rfl ?_
      refine v_aload_n aL_law_720 rfl ?_
      refine v_iload_n aL_law_721 rfl ?_
      refine v_iconst aL_law_722 ?_
      refine v_iadd aL_law_723 ?_
      refine v_sld aL_law_724 (by omega) (by omega) ?_
      refine v_cVe (c_X8_restore hM hmo SC_r (by rw [show xa + 33 + 21 = xa + 54 by omega, o1 _ (by omega)]; exact hrst.2.2 _)) aL_law_725 mX8_restore vX8_restore lL_108 hM.p rfl rfl rfl rfl rfl (Nat.le_of_ble_eq_true rfl) hkk (Nat.le_of_ble_eq_true rfl) (fun z3 μ3 ⟨q1, q2, q3⟩ => ?_)
      obtain ⟨f1, f2, f3⟩ := q1 ho (by rw [show xa + 33 + 21 = xa + 54 by omega, o1 _ (by omega)]; exact hz1)
      subst f1
      subst e1
      refine v_icmp_eqS 756 rfl aL_law_728 ?_
      exact hh _ _ _ _ _ _ _ _ (hs.upd o1 (fun r hr => f3 r (by omega)) h1 (f2 t' (by rw [show xa + 33 + 20 = xa + 53 by omega, o1 _ (by omega)]; exact hmi)) (hok'.mono (by omega)) hp) hk
  · --
    refine v_aload_n aL_law_710 rfl ?_
    refine v_aload_n aL_law_711 rfl ?_
    refine v_iload_n aL_law_712 rfl ?_
    refine v_iconst aL_law_713 ?_
    refine v_iadd aL_law_714 ?_
    refine v_sld aL_law_715 (by omega) (by omega) ?_
    refine v_cVi (cO_X7_restore hX hl SC_r ho) aL_law_716 mX7_restore vX7_restore lL_105 hX.p rfl rfl rfl rfl rfl (Nat.le_of_ble_eq_true rfl) hkk (Nat.le_of_ble_eq_true rfl) ?_
    refine v_aload_n aL_law_719 rfl ?_
    refine v_aload_n aL_law_720 rfl ?_
    refine v_iload_n aL_law_721 rfl ?_
    refine v_iconst aL_law_722 ?_
    refine v_iadd aL_law_723 ?_
    refine v_sld aL_law_724 (by omega) (by omega) ?_
    refine v_cVe (c_X8_restore hM hm SC_r (by rw [show xa + 33 + 21 = xa + 54 by omega]; exact hrst.2.2 _)) aL_law_725 mX8_restore vX8_restore lL_108 hM.p rfl rfl rfl rfl rfl (Nat.le_of_ble_eq_true rfl) hkk (Nat.le_of_ble_eq_true rfl) (fun z3 μ3 ⟨q1, q2, q3⟩ => ?_)
    obtain ⟨f1, f2⟩ := q3 ho
    subst f1
    subst f2
    refine v_icmp_eqS 756 rfl aL_law_728 ?_
    exact hh _ _ _ _ _ _ _ _ (hs.mono (by omega)) hk
set_option maxHeartbeats 4000000 in
set_option maxRecDepth 100000 in
theorem lw_443 (hs : Sim S μ xa im pl t g n B) (hk : KB k im pl) (hB : 0 ≤ B ∧ B ≤ 50000) (hi : 0 ≤ i ∧ i + 4 ≤ (G.2.2.2.2.2.1 : Int)) (hL : G.2.2.2.2.2.1 ≤ 2048) (hh : ∀ (k' : Nat × Nat) (S' : Sh) (μ' : Mu) (im' pl' : Nat → Option Nat) (t' : BSt) (g' : Int → Int) (n' : Int), Sim S' μ' xa im' pl' t' g' n' (B + 42) → KB k' im' pl' → V l G code (x, 4, ret, 1300, 600000, 7302250) P k' S' μ' 756 [.ref G.2.2.2.2.1, .ref xa, .ref (xa + 33), vi i] []) : V l G code (x, 4, ret, 1300, 600000, 7302250) P k S μ 443 [.ref G.2.2.2.2.1, .ref xa, .ref (xa + 33), vi i] [] := by
  have hX := hs.1.1
  have hM := hs.1.2.1
  have hl := hs.2.1
  have hm := hs.2.2.1
  have hok := hs.2.2.2.1
  have hp := hs.2.2.2.2.1
  have hkk : k.1 ≤ 600000 ∧ k.2 ≤ 7302250 := by unfold KB at hk; omega
  have hlay := hs.1.2.2
  have hrst := hs.2.2.2.2.2
  have hg6 := gpn_r hok
  by_cases hnew : MoreOk t (SC G (i + 1)) (SC G (i + 2)) ∧ pl (gpn t).toNat = none
  · have g5 := hnew.1.2.2.2
    have cn := cdN_r (n := gpn t) ⟨hg6.1, g5⟩
    have p1 := Pot_pl (v := 19) (w := 2) (q := S.1) (im := im) (i := (gpn t).toNat) (by omega) hnew.2
    have p2 := Pot_pl (v := 111) (w := 59052) (q := S.1) (im := im) (i := (gpn t).toNat) (by omega) hnew.2
    have hn := hlay.1
    have hkk2 : k.1 + 2 ≤ 600000 ∧ k.2 + (3 + cdN (gpn t - 1).toNat) ≤ 7302250 := by unfold KB at hk; omega
    have hkb : KB (k.1 + 2, k.2 + (3 + cdN (gpn t - 1).toNat)) im (fun j => if j = (gpn t).toNat then some S.1 else pl j) := by unfold KB at hk ⊢; dsimp only; omega
    refine v_aload_n aL_law_443 rfl ?_
    refine v_aload_n aL_law_444 rfl ?_
    refine v_iload_n aL_law_445 rfl ?_
    refine v_iconst aL_law_446 ?_
    refine v_iadd aL_law_447 ?_
    refine v_sld aL_law_448 (by omega) (by omega) ?_
    refine v_aload_n aL_law_449 rfl ?_
    refine v_iload_n aL_law_450 rfl ?_
    refine v_iconst aL_law_451 ?_
    refine v_iadd aL_law_452 ?_
    refine v_sld aL_law_453 (by omega) (by omega) ?_
    refine v_callV [vi (SC G (i + 1)), vi (SC G (i + 2))] (cN_X7_more hX hl hok SC_r SC_r hnew.1 rfl hnew.2 rfl (by omega)) aL_law_454 mX7_more vX7_more lL_68 hX.p rfl rfl rfl rfl rfl (Nat.le_of_ble_eq_true rfl) hkk2 (Nat.le_of_ble_eq_true rfl) ?_
    rintro r S2 μ2 ⟨z1, rfl, e1, z2, hX2, hP2, hc2, hm2, e2, l2, m2⟩
    have hs2 := hs.pln (kk := gpn t) ⟨hg6.1, g5⟩ rfl hnew.2 z2 hX2 hP2 hc2 hm2 e2 l2 m2
    have hM2 := hs2.1.2.1
    have hmo := hs2.2.2.1
    refine v_aload_n aL_law_457 rfl ?_
    refine v_aload_n aL_law_458 rfl ?_
    refine v_iload_n aL_law_459 rfl ?_
    refine v_iconst aL_law_460 ?_
    refine v_iadd aL_law_461 ?_
    refine v_sld aL_law_462 (by omega) (by omega) ?_
    refine v_aload_n aL_law_463 rfl ?_
    refine v_iload_n aL_law_464 rfl ?_
    refine v_iconst aL_law_465 ?_
    refine v_iadd aL_law_466 ?_
    refine v_sld aL_law_467 (by omega) (by omega) ?_
    refine v_cVe (c_X8_more hM2 hmo hok SC_r SC_r) aL_law_468 mX8_more vX8_more lL_71 hM2.p rfl rfl rfl rfl rfl (Nat.le_of_ble_eq_true rfl) hkk2 (Nat.le_of_ble_eq_true rfl) (fun z3 μ3 ⟨e3, h3, o3⟩ => ?_)
    obtain rfl := MoreQ_un e1 e3
    refine v_icmp_eqS 756 rfl aL_law_471 ?_
    exact hh _ _ _ _ _ _ _ _ (hs2.upd Out.rf o3 hs2.2.1 h3 (hok.mono (by omega)) hp) hkb
  · have hex : MoreOk t (SC G (i + 1)) (SC G (i + 2)) → ∃ p : Nat, pl (gpn t).toNat = some p := fun q => by
      cases hp9 : pl (gpn t).toNat with
      | none => exact absurd ⟨q, hp9⟩ hnew
      | some p => exact ⟨p, rfl⟩
    have hpl : ∀ p : Nat, pl (gpn t).toNat = some p → xa + 33 ≤ p ∧ PlnS S p (cdN (gpn t - 1).toNat) ∧ PlC μ p (gpn t) ∧ PlM μ p (gpn t) := fun p hp9 => by
      have h9 := hrst.2.1 _ p hp9
      rw [show (gpn t).toNat - 1 = (gpn t - 1).toNat by omega, show (((gpn t).toNat : Nat) : Int) = gpn t by omega] at h9
      exact ⟨by have := (hlay.2.2.1 _ p hp9).2; omega, h9⟩
    refine v_aload_n aL_law_443 rfl ?_
    refine v_aload_n aL_law_444 rfl ?_
    refine v_iload_n aL_law_445 rfl ?_
    refine v_iconst aL_law_446 ?_
    refine v_iadd aL_law_447 ?_
    refine v_sld aL_law_448 (by omega) (by omega) ?_
    refine v_aload_n aL_law_449 rfl ?_
    refine v_iload_n aL_law_450 rfl ?_
    refine v_iconst aL_law_451 ?_
    refine v_iadd aL_law_452 ?_
    refine v_sld aL_law_453 (by omega) (by omega) ?_
    refine v_cVe (cR_X7_more hX hl hok SC_r SC_r hex hpl) aL_law_454 mX7_more vX7_more lL_68 hX.p rfl rfl rfl rfl rfl (Nat.le_of_ble_eq_true rfl) hkk (Nat.le_of_ble_eq_true rfl) (fun z1 μ1 ⟨e1, h1, o1, p1⟩ => ?_)
    have hs1 := hs.plr (kk := gpn t) (by omega) h1 o1 p1
    have hmo := hs1.2.2.1
    refine v_aload_n aL_law_457 rfl ?_
    refine v_aload_n aL_law_458 rfl ?_
    refine v_iload_n aL_law_459 rfl ?_
    refine v_iconst aL_law_460 ?_
    refine v_iadd aL_law_461 ?_
    refine v_sld aL_law_462 (by omega) (by omega) ?_
    refine v_aload_n aL_law_463 rfl ?_
    refine v_iload_n aL_law_464 rfl ?_
    refine v_iconst aL_law_465 ?_
    refine v_iadd aL_law_466 ?_
    refine v_sld aL_law_467 (by omega) (by omega) ?_
    refine v_cVe (c_X8_more hM hmo hok SC_r SC_r) aL_law_468 mX8_more vX8_more lL_71 hM.p rfl rfl rfl rfl rfl (Nat.le_of_ble_eq_true rfl) hkk (Nat.le_of_ble_eq_true rfl) (fun z3 μ3 ⟨e3, h3, o3⟩ => ?_)
    obtain rfl := MoreQ_un e1 e3
    refine v_icmp_eqS 756 rfl aL_law_471 ?_
    exact hh _ _ _ _ _ _ _ _ (hs1.upd Out.rf o3 hs1.2.1 h3 (hok.mono (by omega)) hp) hk
set_option maxHeartbeats 4000000 in
set_option maxRecDepth 100000 in
theorem lw_loop (hL : G.2.2.2.2.2.1 ≤ 2048) : ∀ (N : Nat) (i B : Int) (k : Nat × Nat) (S : Sh) (μ : Mu) (im pl : Nat → Option Nat) (t : BSt) (g : Int → Int) (n : Int), (0 ≤ i) → i ≤ (G.2.2.2.2.2.1 : Int) + 4 → (G.2.2.2.2.2.1 : Int) + 8 - i < N → 0 ≤ B → 2 * B = 21 * i → Sim S μ xa im pl t g n B → KB k im pl → V l G code (x, 4, ret, 1300, 600000, 7302250) (fun r _ _ => r = some (vi 1)) k S μ 18 [.ref G.2.2.2.2.1, .ref xa, .ref (xa + 33), vi i] [] := by
  intro N
  induction N with
  | zero => intros; omega
  | succ N ih =>
    intro i B k S μ im pl t g n h0 hiL h1 hB0 hB2 hs hk
    have hkk : k.1 ≤ 600000 ∧ k.2 ≤ 7302250 := by unfold KB at hk; omega
    have hr := iAnd_r (a := SC G i) (b := 31)
    refine v_iload_n aL_law_18 rfl ?_
    refine v_aload_n aL_law_19 rfl ?_
    refine v_slen aL_law_20 ?_
    refine v_iconst aL_law_21 ?_
    refine v_isub aL_law_22 ?_
    refine v_icmp_gt 762 rfl aL_law_23 (by omega) (by omega) (fun c23 => ?_) (fun c23 => ?_)
    · --
      refine v_iconst aL_law_762 ?_
      refine v_zreturn aL_law_763 rfl hkk (by first | exact Or.inl rfl | exact Or.inr rfl | exact b2i_01 | omega) ?_
      rfl
    · --
      have hcont : ∀ (k' : Nat × Nat) (S' : Sh) (μ' : Mu) (im' pl' : Nat → Option Nat) (t' : BSt) (g' : Int → Int) (n' : Int), Sim S' μ' xa im' pl' t' g' n' (B + 42) → KB k' im' pl' → V l G code (x, 4, ret, 1300, 600000, 7302250) (fun r _ _ => r = some (vi 1)) k' S' μ' 756 [.ref G.2.2.2.2.1, .ref xa, .ref (xa + 33), vi i] [] := fun k' S' μ' im' pl' t' g' n' hs' hk' => by
        refine v_iinc aL_law_756 rfl (by decide) rfl ?_
        refine v_goto 18 rfl aL_law_759 ?_
        exact ih (i + 4) (B + 42) k' S' μ' im' pl' t' g' n' (by omega) (by omega) (by omega) (by omega) (by omega) hs' hk'
      refine v_aload_n aL_law_26 rfl ?_
      refine v_iload_n aL_law_27 rfl ?_
      refine v_sld aL_law_28 (by omega) (by omega) ?_
      refine v_bipush (by decide) aL_law_29 ?_
      refine v_iand aL_law_31 ?_
      rcases (show iAnd (SC G i) 31 < 0 ∨ 23 < iAnd (SC G i) 31 ∨ iAnd (SC G i) 31 = 0 ∨ iAnd (SC G i) 31 = 1 ∨ iAnd (SC G i) 31 = 2 ∨ iAnd (SC G i) 31 = 3 ∨ iAnd (SC G i) 31 = 4 ∨ iAnd (SC G i) 31 = 5 ∨ iAnd (SC G i) 31 = 6 ∨ iAnd (SC G i) 31 = 7 ∨ iAnd (SC G i) 31 = 8 ∨ iAnd (SC G i) 31 = 9 ∨ iAnd (SC G i) 31 = 10 ∨ iAnd (SC G i) 31 = 11 ∨ iAnd (SC G i) 31 = 12 ∨ iAnd (SC G i) 31 = 13 ∨ iAnd (SC G i) 31 = 14 ∨ iAnd (SC G i) 31 = 15 ∨ iAnd (SC G i) 31 = 16 ∨ iAnd (SC G i) 31 = 17 ∨ iAnd (SC G i) 31 = 18 ∨ iAnd (SC G i) 31 = 19 ∨ iAnd (SC G i) 31 = 20 ∨ iAnd (SC G i) 31 = 21 ∨ iAnd (SC G i) 31 = 22 ∨ iAnd (SC G i) 31 = 23 by omega) with t32 | t32 | t32 | t32 | t32 | t32 | t32 | t32 | t32 | t32 | t32 | t32 | t32 | t32 | t32 | t32 | t32 | t32 | t32 | t32 | t32 | t32 | t32 | t32 | t32 | t32
      · --
        refine v_tableOut 756 aL_law_32 (by omega) (Or.inl t32) rfl ?_
        exact hcont _ _ _ _ _ _ _ _ (hs.mono (by omega)) hk
      · --
        refine v_tableOut 756 aL_law_32 (by omega) (Or.inr t32) rfl ?_
        exact hcont _ _ _ _ _ _ _ _ (hs.mono (by omega)) hk
      · --
        refine v_tableIn 144 aL_law_32 (by omega) (by omega) (by omega) (by rw [t32]; rfl) rfl ?_
        exact lw_144 hs hk ⟨hB0, by omega⟩ ⟨h0, by omega⟩ hL hcont
      · --
        refine v_tableIn 167 aL_law_32 (by omega) (by omega) (by omega) (by rw [t32]; rfl) rfl ?_
        exact lw_167 hs hk ⟨hB0, by omega⟩ ⟨h0, by omega⟩ hL hcont
      · --
        refine v_tableIn 190 aL_law_32 (by omega) (by omega) (by omega) (by rw [t32]; rfl) rfl ?_
        exact lw_190 hs hk ⟨hB0, by omega⟩ ⟨h0, by omega⟩ hL hcont
      · --
        refine v_tableIn 203 aL_law_32 (by omega) (by omega) (by omega) (by rw [t32]; rfl) rfl ?_
        exact lw_203 hs hk ⟨hB0, by omega⟩ ⟨h0, by omega⟩ hL hcont
      · --
        refine v_tableIn 216 aL_law_32 (by omega) (by omega) (by omega) (by rw [t32]; rfl) rfl ?_
        exact lw_216 hs hk ⟨hB0, by omega⟩ ⟨h0, by omega⟩ hL hcont
      · --
        refine v_tableIn 229 aL_law_32 (by omega) (by omega) (by omega) (by rw [t32]; rfl) rfl ?_
        exact lw_229 hs hk ⟨hB0, by omega⟩ ⟨h0, by omega⟩ hL hcont
      · --
        refine v_tableIn 242 aL_law_32 (by omega) (by omega) (by omega) (by rw [t32]; rfl) rfl ?_
        exact lw_242 hs hk ⟨hB0, by omega⟩ ⟨h0, by omega⟩ hL hcont
      · --
        refine v_tableIn 275 aL_law_32 (by omega) (by omega) (by omega) (by rw [t32]; rfl) rfl ?_
        exact lw_275 hs hk ⟨hB0, by omega⟩ ⟨h0, by omega⟩ hL hcont
      · --
        refine v_tableIn 308 aL_law_32 (by omega) (by omega) (by omega) (by rw [t32]; rfl) rfl ?_
        exact lw_308 hs hk ⟨hB0, by omega⟩ ⟨h0, by omega⟩ hL hcont
      · --
        refine v_tableIn 331 aL_law_32 (by omega) (by omega) (by omega) (by rw [t32]; rfl) rfl ?_
        exact lw_331 hs hk ⟨hB0, by omega⟩ ⟨h0, by omega⟩ hL hcont
      · --
        refine v_tableIn 364 aL_law_32 (by omega) (by omega) (by omega) (by rw [t32]; rfl) rfl ?_
        exact lw_364 hs hk ⟨hB0, by omega⟩ ⟨h0, by omega⟩ hL hcont
      · --
        refine v_tableIn 377 aL_law_32 (by omega) (by omega) (by omega) (by rw [t32]; rfl) rfl ?_
        exact lw_377 hs hk ⟨hB0, by omega⟩ ⟨h0, by omega⟩ hL hcont
      · --
        refine v_tableIn 410 aL_law_32 (by omega) (by omega) (by omega) (by rw [t32]; rfl) rfl ?_
        exact lw_410 hs hk ⟨hB0, by omega⟩ ⟨h0, by omega⟩ hL hcont
      · --
        refine v_tableIn 443 aL_law_32 (by omega) (by omega) (by omega) (by rw [t32]; rfl) rfl ?_
        exact lw_443 hs hk ⟨hB0, by omega⟩ ⟨h0, by omega⟩ hL hcont
      · --
        refine v_tableIn 476 aL_law_32 (by omega) (by omega) (by omega) (by rw [t32]; rfl) rfl ?_
        exact lw_476 hs hk ⟨hB0, by omega⟩ ⟨h0, by omega⟩ hL hcont
      · --
        refine v_tableIn 519 aL_law_32 (by omega) (by omega) (by omega) (by rw [t32]; rfl) rfl ?_
        exact lw_519 hs hk ⟨hB0, by omega⟩ ⟨h0, by omega⟩ hL hcont
      · --
        refine v_tableIn 542 aL_law_32 (by omega) (by omega) (by omega) (by rw [t32]; rfl) rfl ?_
        exact lw_542 hs hk ⟨hB0, by omega⟩ ⟨h0, by omega⟩ hL hcont
      · --
        refine v_tableIn 575 aL_law_32 (by omega) (by omega) (by omega) (by rw [t32]; rfl) rfl ?_
        exact lw_575 hs hk ⟨hB0, by omega⟩ ⟨h0, by omega⟩ hL hcont
      · --
        refine v_tableIn 598 aL_law_32 (by omega) (by omega) (by omega) (by rw [t32]; rfl) rfl ?_
        exact lw_598 hs hk ⟨hB0, by omega⟩ ⟨h0, by omega⟩ hL hcont
      · --
        refine v_tableIn 631 aL_law_32 (by omega) (by omega) (by omega) (by rw [t32]; rfl) rfl ?_
        exact lw_631 hs hk ⟨hB0, by omega⟩ ⟨h0, by omega⟩ hL hcont
      · --
        refine v_tableIn 654 aL_law_32 (by omega) (by omega) (by omega) (by rw [t32]; rfl) rfl ?_
        exact lw_654 hs hk ⟨hB0, by omega⟩ ⟨h0, by omega⟩ hL hcont
      · --
        refine v_tableIn 687 aL_law_32 (by omega) (by omega) (by omega) (by rw [t32]; rfl) rfl ?_
        exact lw_687 hs hk ⟨hB0, by omega⟩ ⟨h0, by omega⟩ hL hcont
      · --
        refine v_tableIn 710 aL_law_32 (by omega) (by omega) (by omega) (by rw [t32]; rfl) rfl ?_
        exact lw_710 hs hk ⟨hB0, by omega⟩ ⟨h0, by omega⟩ hL hcont
      · --
        refine v_tableIn 733 aL_law_32 (by omega) (by omega) (by omega) (by rw [t32]; rfl) rfl ?_
        exact lw_733 hs hk ⟨hB0, by omega⟩ ⟨h0, by omega⟩ hL hcont
set_option maxHeartbeats 4000000 in
set_option maxRecDepth 100000 in
theorem lw_start {b0 : Nat} (hb0 : G.2.2.1 = b0) (hL : G.2.2.2.2.2.1 ≤ 2048) : V l G code (x, 4, ret, 1300, 600000, 7302250) (fun r _ _ => r = some (vi 1)) (0, 0) (b0, fun _ => none) (fun _ _ => 0) 0 [.ref G.2.2.2.2.1] [] := by
  refine new_c7 (q := b0) aL_law_0 rfl ⟨Nat.le_of_ble_eq_true rfl, Nat.le_of_ble_eq_true rfl⟩ clL_7 (fun S1 μ1 z1 s1 e1 n1 m1 => ?_)
  refine v_dup rfl aL_law_3 ?_
  refine v_callI [] (c_X7_init z1 s1) aL_law_4 mX7_init viX7_init rfl lL_9 rfl rfl (Nat.le_of_ble_eq_true rfl) ⟨Nat.le_of_ble_eq_true rfl, Nat.le_of_ble_eq_true rfl⟩ (Nat.le_of_ble_eq_true rfl) ?_
  rintro r S2 μ2 ⟨rfl, z2, e2, m2, hX2, hl2⟩
  refine v_astore_n aL_law_7 (by decide) rfl ?_
  refine new_c8 (q := b0 + 33) aL_law_8 z2 ⟨Nat.le_of_ble_eq_true rfl, Nat.le_of_ble_eq_true rfl⟩ clL_10 (fun S3 μ3 z3 s3 e3 n3 m3 => ?_)
  refine v_dup rfl aL_law_11 ?_
  refine v_callI [] (c_X8_init z3 s3 n3) aL_law_12 mX8_init viX8_init rfl lL_12 rfl rfl (Nat.le_of_ble_eq_true rfl) ⟨Nat.le_of_ble_eq_true rfl, Nat.le_of_ble_eq_true rfl⟩ (Nat.le_of_ble_eq_true rfl) ?_
  rintro r S4 μ4 ⟨rfl, z4, e4, m4, hM4, hm4, hk4⟩
  refine v_astore_n aL_law_15 (by decide) rfl ?_
  refine v_iconst aL_law_16 ?_
  refine v_istore_n aL_law_17 (by decide) rfl ?_
  have eS : ∀ a, a < b0 + 33 → S4.2 a = S2.2 a := fun a ha => (e4 a ha).trans (e3 a (by omega))
  have eμ : ∀ a, a < b0 + 33 → μ4 a = μ2 a := fun a ha => (m4 a ha).trans (m3 a (by omega))
  have hk5 : μ4 (b0 + 54) = fun _ => 0 := by rw [show b0 + 54 = b0 + 33 + 21 by omega]; exact hk4
  have hsim : Sim S4 μ4 b0 (fun _ => none) (fun _ => none) bk0 (fun _ => 0) 0 0 := by
    refine ⟨⟨hX2.kept (fun a a0 a1 => eS a (by omega)), hM4, ?_⟩, hl2.kept (fun a a0 a1 => eμ a (by omega)), hm4, bk0_ok, pad0_ok, fun j hj => Or.inl ⟨rfl, by rw [hk5]⟩, fun k p hp => by simp at hp, fun z => Or.inl (by rw [hk5])⟩
    exact ⟨by omega, fun _ _ h => by simp at h, fun _ _ h => by simp at h, fun _ _ _ _ _ h => by simp at h, fun _ _ _ _ h => by simp at h, fun _ _ _ _ _ h => by simp at h⟩
  exact lw_loop hL 2061 0 0 _ S4 μ4 _ _ _ _ _ (by decide) (by omega) (by omega) (by decide) (by decide) hsim (by unfold KB Pot po; dsimp only; omega)
end LAW2
