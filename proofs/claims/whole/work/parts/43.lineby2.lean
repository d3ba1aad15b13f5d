/-! lineBy: the class, the best line -/
theorem exN_keep {wh : Int} {T : Int → Int} {n : Int} {j : Nat} (h1 : wh = 1 → ¬ (exN wh T n j).2 < opl T (lnI n (j + 1)) n) (h2 : wh ≠ 1 → ¬ opl T (lnI n (j + 1)) n < (exN wh T n j).2) : exN wh T n (j + 1) = exN wh T n j := by
  rw [exN]
  refine if_neg fun q => ?_
  by_cases e : wh = 1
  · rw [if_pos e] at q; exact h1 e q
  · rw [if_neg e] at q; exact h2 e q
theorem exN_take {wh : Int} {T : Int → Int} {n : Int} {j : Nat} (h1 : wh = 1 → (exN wh T n j).2 < opl T (lnI n (j + 1)) n) (h2 : wh ≠ 1 → opl T (lnI n (j + 1)) n < (exN wh T n j).2) : exN wh T n (j + 1) = (j + 1, opl T (lnI n (j + 1)) n) := by
  rw [exN]
  refine if_pos ?_
  by_cases e : wh = 1
  · rw [if_pos e]; exact h1 e
  · rw [if_neg e]; exact h2 e
theorem nxI_c {f g : Int → Int} {n p q k : Int} (hf : ∀ k : Int, 0 ≤ k → k < n → f k = g k) (p0 : 0 ≤ p) (p1 : p + 1 < n) (q0 : p < q) (q1 : q < n) (k0 : 0 ≤ k) (k1 : k < n) : nxI f n p q k = nxI g n p q k := by
  unfold nxI
  by_cases e1 : k < p
  · rw [if_pos e1, if_pos e1, hf k k0 k1]
  · rw [if_neg e1, if_neg e1]
    by_cases e2 : k = p
    · rw [if_pos e2, if_pos e2, hf q (by omega) q1]
    · rw [if_neg e2, if_neg e2]
      by_cases e3 : n + p - k = q
      · rw [if_pos e3, if_pos e3, hf p p0 (by omega)]
      · rw [if_neg e3, if_neg e3, hf _ (by omega) (by omega)]
section LB2
variable {l : Launch} {G : Glb} {S : Sh} {μ : Mu} {w q : Nat} {n : Int}
set_option maxHeartbeats 4000000 in
set_option maxRecDepth 100000 in
theorem lo_X6_findExtreme {μ0 : Mu} {mo : Int} (hW : WlnS S w) (hq : S.2 q = some (aI 6)) (hqw : q ≠ w ∧ q ≠ w + 1) (hn : 2 ≤ n ∧ n ≤ 6) (hmo : 0 ≤ mo ∧ mo ≤ 1) (hT : ∀ i : Int, 0 ≤ i → i < 6 → 0 ≤ (μ0 q) i ∧ (μ0 q) i ≤ 99) : ∀ (N : Nat) (j : Nat) (μ : Mu) (L : List Value), j < fcI n → fcI n - j < N → (∀ k : Int, 0 ≤ k → k < n → μ (w + 1) k = lnI n j k) ∧ μ w 1 = n ∧ μ w 2 = num10 (lnI n (exN mo (μ0 q) n j).1) n.toNat ∧ μ w 3 = (exN mo (μ0 q) n j).2 ∧ (∀ r : Nat, r ≠ w → r ≠ w + 1 → μ r = μ0 r) → V l G cX6_findExtreme (yX6_findExtreme, 6, none, 2, 0, 0) (Rw S (fun μ' => μ' w 2 = num10 (lnI n (exN mo (μ0 q) n (fcI n - 1)).1) n.toNat ∧ μ' w 3 = (exN mo (μ0 q) n (fcI n - 1)).2 ∧ (∀ r : Nat, r ≠ w → r ≠ w + 1 → μ' r = μ0 r))) (0, 0) S μ 52 ([.ref w, .ref q, vi n, vi mo, vi ((j : Int) + 1)] ++ L) [] := by
  intro N
  induction N with
  | zero => intros; omega
  | succ N ih =>
    intro j μ L h0 h1 ⟨i0, i1, i2, i3, i4⟩
    have hfc := fc_r (n := n.toNat) (by omega)
    have hfc : 2 ≤ fcI n ∧ fcI n ≤ 720 := hfc
    have hpm : Pm n (μ (w + 1)) := (ln_pm hn h0).c i0
    have hxr := exN_r (wh := mo) (T := μ0 q) (n := n) (by omega) j
    refine v_take 5 rfl ?_
    show V _ _ _ _ _ _ _ _ _ [.ref w, .ref q, vi n, vi mo, vi ((j : Int) + 1)] _
    refine v_iload aX6_findExtreme_52 rfl ?_
    refine v_sipush (by decide) aX6_findExtreme_54 ?_
    refine v_icmp_ge 119 rfl aX6_findExtreme_57 (by omega) (by omega) (fun c57 => ?_) (fun c57 => ?_)
    · --
      refine v_return aX6_findExtreme_119 rfl ⟨Nat.le_refl _, Nat.le_refl _⟩ ?_
      have e : j = fcI n - 1 := by omega
      rw [← e]
      exact ⟨rfl, rfl, i2, i3, i4⟩
    · --
      refine v_aload_n aX6_findExtreme_60 rfl ?_
      refine v_cVe (c_X6_advance hW hn i1 hpm) aX6_findExtreme_61 mX6_advance vX6_advance lX6_39 hW.p rfl rfl rfl rfl rfl (Nat.le_of_ble_eq_true rfl) ⟨Nat.le_of_ble_eq_true rfl, Nat.le_of_ble_eq_true rfl⟩ (Nat.le_of_ble_eq_true rfl) (fun z μ1 hz => ?_)
      have hzr : z = 0 ∨ z = 1 := hz.elim (fun y => Or.inl y.1) (fun y => Or.inr y.1)
      refine v_if_eq 119 rfl aX6_findExtreme_64 (by omega) (fun c64 => ?_) (fun c64 => ?_)
      · --
        refine v_return aX6_findExtreme_119 rfl ⟨Nat.le_refl _, Nat.le_refl _⟩ ?_
        obtain ⟨y0, y1⟩ := hz.elim (fun y => y.2) (fun y => absurd y.1 (by omega))
        have e : j = fcI n - 1 := by
          rcases Nat.lt_or_ge (j + 1) (fcI n) with y | y
          · exfalso
            obtain ⟨p, p0, p1, p2⟩ := (ln_next hn y).2.1
            rw [← i0 p p0 (by omega), ← i0 (p + 1) (by omega) p1] at p2
            exact y0 p p0 p1 p2
          · omega
        rw [← e, y1]
        exact ⟨rfl, rfl, i2, i3, i4⟩
      · --
        obtain ⟨p, r, p0, p1, p2, p3, r0, r1, r2, r3, r4, r5⟩ := hz.elim (fun y => absurd y.1 c64) (fun y => y.2)
        have hk1 : μ1 w = μ w := r5 w (by omega)
        have hj : j + 1 < fcI n := by
          rcases Nat.lt_or_ge (j + 1) (fcI n) with y | y
          · exact y
          · exfalso
            refine ln_last hn (show j + 1 = fcI n by omega) p p0 p1 ?_
            rw [← i0 p p0 (by omega), ← i0 (p + 1) (by omega) p1]; exact p2
        have e0 := i0
        have hl1 : ∀ k : Int, 0 ≤ k → k < n → μ1 (w + 1) k = lnI n (j + 1) k := fun k k0 k1 => by
          rw [r4 k k0 k1, nxI_c i0 p0 p1 r0 r1 k0 k1]
          refine (ln_next hn hj).2.2 p r p0 p1 ?_ (fun k k0 k1 => ?_) r0 r1 ?_ (fun k k0 k1 => ?_) k k0 k1
          · rw [← i0 p p0 (by omega), ← i0 (p + 1) (by omega) p1]; exact p2
          · rw [← i0 k (by omega) (by omega), ← i0 (k + 1) (by omega) k1]; exact p3 k k0 k1
          · rw [← i0 p p0 (by omega), ← i0 r (by omega) r1]; exact r2
          · rw [← i0 k (by omega) k1, ← i0 p p0 (by omega)]; exact r3 k k0 k1
        have fr1 : ∀ r : Nat, r ≠ w → r ≠ w + 1 → μ1 r = μ0 r := fun r y0 y1 => (r5 r y1).trans (i4 r y0 y1)
        have hpm1 : Pm n (μ1 (w + 1)) := (ln_pm hn hj).c hl1
        have hT1 : ∀ i : Int, 0 ≤ i → i < 6 → 0 ≤ μ1 q i ∧ μ1 q i ≤ 99 := by rw [fr1 q hqw.1 hqw.2]; exact hT
        have hop : opl (μ1 q) (μ1 (w + 1)) n = opl (μ0 q) (lnI n (j + 1)) n := by
          rw [fr1 q hqw.1 hqw.2]
          exact (opl_c (by omega) hl1 (fun k k0 k1 => by rw [hl1 k k0 k1])).symm
        have hor := opl_r (T := μ0 q) (f := lnI n (j + 1)) (n := n) (by omega)
        refine v_aload_n aX6_findExtreme_67 rfl ?_
        refine v_aload_n aX6_findExtreme_68 rfl ?_
        refine v_cVi (c_X6_pairsLeftOpen hW hq hn (by rw [hk1]; exact i1) (hpm1) hT1) aX6_findExtreme_69 mX6_pairsLeftOpen vX6_pairsLeftOpen lX6_32 hW.p rfl rfl rfl rfl rfl (Nat.le_of_ble_eq_true rfl) ⟨Nat.le_of_ble_eq_true rfl, Nat.le_of_ble_eq_true rfl⟩ (Nat.le_of_ble_eq_true rfl) ?_
        refine v_top hop ?_
        refine v_istore aX6_findExtreme_72 (by decide) rfl ?_
        refine v_iload_n aX6_findExtreme_74 rfl ?_
        refine v_if_eq 90 rfl aX6_findExtreme_75 (by omega) (fun c75 => ?_) (fun c75 => ?_)
        · --
          refine v_iload aX6_findExtreme_90 rfl ?_
          refine v_aload_n aX6_findExtreme_92 rfl ?_
          refine v_gi 3 rfl aX6_findExtreme_93 fX6_36 hW.p rfl rfl ?_
          rw [hk1, i3]
          refine v_icmp_ge 113 rfl aX6_findExtreme_96 (by omega) (by omega) (fun c96 => ?_) (fun c96 => ?_)
          · --
            refine v_iinc aX6_findExtreme_113 rfl (by decide) rfl ?_
            refine v_goto 52 rfl aX6_findExtreme_116 ?_
            refine ih (j + 1) μ1 [vi _] (by omega) (by omega) ⟨hl1, by rw [hk1]; exact i1, ?_, ?_, fr1⟩
            · rw [hk1, exN_keep (fun e => by omega) (fun e => by omega)]; exact i2
            · rw [hk1, exN_keep (fun e => by omega) (fun e => by omega)]; exact i3
          · --
            refine v_aload_n aX6_findExtreme_99 rfl ?_
            refine v_aload_n aX6_findExtreme_100 rfl ?_
            refine v_cVi (c_X6_number hW (n := n) (by omega) (by rw [hk1]; exact i1)) aX6_findExtreme_101 mX6_number vX6_number lX6_25 hW.p rfl rfl rfl rfl rfl (Nat.le_of_ble_eq_true rfl) ⟨Nat.le_of_ble_eq_true rfl, Nat.le_of_ble_eq_true rfl⟩ (Nat.le_of_ble_eq_true rfl) ?_
            refine v_pi 2 rfl aX6_findExtreme_104 fX6_29 nf6_2 ok6_2 hW.p rfl rfl ?_
            refine v_aload_n aX6_findExtreme_107 rfl ?_
            refine v_iload aX6_findExtreme_108 rfl ?_
            refine v_pi 3 rfl aX6_findExtreme_110 fX6_36 nf6_3 ok6_3 hW.p rfl rfl ?_
            refine v_iinc aX6_findExtreme_113 rfl (by decide) rfl ?_
            refine v_goto 52 rfl aX6_findExtreme_116 ?_
            refine ih (j + 1) _ [vi _] (by omega) (by omega) ⟨fun k k0 k1 => ?_, ?_, ?_, ?_, fun r r0 r1 => (upd2_row r0).trans ((upd2_row r0).trans (fr1 r r0 r1))⟩
            · rw [upd2_row (by omega), upd2_row (by omega)]; exact hl1 k k0 k1
            · rw [upd2_ap, if_neg (by omega), upd2_ap, if_neg (by omega), hk1]; exact i1
            · rw [upd2_ap, if_neg (by omega), upd2_same, exN_take (fun e => by omega) (fun e => by omega)]
              exact num10_c _ (fun k k0 k1 => hl1 k k0 (by omega))
            · rw [upd2_same, exN_take (fun e => by omega) (fun e => by omega)]
        · --
          refine v_iload aX6_findExtreme_78 rfl ?_
          refine v_aload_n aX6_findExtreme_80 rfl ?_
          refine v_gi 3 rfl aX6_findExtreme_81 fX6_36 hW.p rfl rfl ?_
          rw [hk1, i3]
          refine v_icmp_le 113 rfl aX6_findExtreme_84 (by omega) (by omega) (fun c84 => ?_) (fun c84 => ?_)
          · --
            refine v_iinc aX6_findExtreme_113 rfl (by decide) rfl ?_
            refine v_goto 52 rfl aX6_findExtreme_116 ?_
            refine ih (j + 1) μ1 [vi _] (by omega) (by omega) ⟨hl1, by rw [hk1]; exact i1, ?_, ?_, fr1⟩
            · rw [hk1, exN_keep (fun e => by omega) (fun e => by omega)]; exact i2
            · rw [hk1, exN_keep (fun e => by omega) (fun e => by omega)]; exact i3
          · --
            refine v_goto 99 rfl aX6_findExtreme_87 ?_
            refine v_aload_n aX6_findExtreme_99 rfl ?_
            refine v_aload_n aX6_findExtreme_100 rfl ?_
            refine v_cVi (c_X6_number hW (n := n) (by omega) (by rw [hk1]; exact i1)) aX6_findExtreme_101 mX6_number vX6_number lX6_25 hW.p rfl rfl rfl rfl rfl (Nat.le_of_ble_eq_true rfl) ⟨Nat.le_of_ble_eq_true rfl, Nat.le_of_ble_eq_true rfl⟩ (Nat.le_of_ble_eq_true rfl) ?_
            refine v_pi 2 rfl aX6_findExtreme_104 fX6_29 nf6_2 ok6_2 hW.p rfl rfl ?_
            refine v_aload_n aX6_findExtreme_107 rfl ?_
            refine v_iload aX6_findExtreme_108 rfl ?_
            refine v_pi 3 rfl aX6_findExtreme_110 fX6_36 nf6_3 ok6_3 hW.p rfl rfl ?_
            refine v_iinc aX6_findExtreme_113 rfl (by decide) rfl ?_
            refine v_goto 52 rfl aX6_findExtreme_116 ?_
            refine ih (j + 1) _ [vi _] (by omega) (by omega) ⟨fun k k0 k1 => ?_, ?_, ?_, ?_, fun r r0 r1 => (upd2_row r0).trans ((upd2_row r0).trans (fr1 r r0 r1))⟩
            · rw [upd2_row (by omega), upd2_row (by omega)]; exact hl1 k k0 k1
            · rw [upd2_ap, if_neg (by omega), upd2_ap, if_neg (by omega), hk1]; exact i1
            · rw [upd2_ap, if_neg (by omega), upd2_same, exN_take (fun e => by omega) (fun e => by omega)]
              exact num10_c _ (fun k k0 k1 => hl1 k k0 (by omega))
            · rw [upd2_same, exN_take (fun e => by omega) (fun e => by omega)]
set_option maxHeartbeats 4000000 in
set_option maxRecDepth 100000 in
theorem l1_X6_findExtreme {μ0 : Mu} {mo : Int} {P : Pst} (hW : WlnS S w) (hq : S.2 q = some (aI 6)) (hqw : q ≠ w ∧ q ≠ w + 1) (hn : 2 ≤ n ∧ n ≤ 6) (hmo : 0 ≤ mo ∧ mo ≤ 1) (hT : ∀ i : Int, 0 ≤ i → i < 6 → 0 ≤ (μ0 q) i ∧ (μ0 q) i ≤ 99) (hh : ∀ (μ : Mu) (L : List Value), (∀ k : Int, 0 ≤ k → k < n → μ (w + 1) k = k) → μ w 1 = n → (∀ r : Nat, r ≠ w → r ≠ w + 1 → μ r = μ0 r) → V l G cX6_findExtreme (yX6_findExtreme, 6, none, 2, 0, 0) P (0, 0) S μ 32 ([.ref w, .ref q, vi n, vi mo] ++ L) []) : ∀ (N : Nat) (i : Int) (μ : Mu), (0 ≤ i ∧ i ≤ n) → n - i < N → (∀ k : Int, 0 ≤ k → k < i → μ (w + 1) k = k) → μ w 1 = n → (∀ r : Nat, r ≠ w → r ≠ w + 1 → μ r = μ0 r) → V l G cX6_findExtreme (yX6_findExtreme, 6, none, 2, 0, 0) P (0, 0) S μ 8 [.ref w, .ref q, vi n, vi mo, vi i] [] := by
  intro N
  induction N with
  | zero => intros; omega
  | succ N ih =>
    intro i μ h0 h1 hv hlen hk
    refine v_iload aX6_findExtreme_8 rfl ?_
    refine v_aload_n aX6_findExtreme_10 rfl ?_
    refine v_gi 1 rfl aX6_findExtreme_11 fX6_15 hW.p rfl rfl ?_
    rw [hlen]
    refine v_icmp_ge 32 rfl aX6_findExtreme_14 (by omega) (by omega) (fun c14 => ?_) (fun c14 => ?_)
    · --
      exact hh μ [vi _] (fun k k0 k1 => hv k k0 (by omega)) hlen hk
    · --
      refine v_aload_n aX6_findExtreme_17 rfl ?_
      refine v_getr aX6_findExtreme_18 fX6_9 hW.p rfl rfl ?_
      refine v_iload aX6_findExtreme_21 rfl ?_
      refine v_iload aX6_findExtreme_23 rfl ?_
      refine v_iast aX6_findExtreme_25 hW.p_line (by omega) (by decide) ?_
      refine v_iinc aX6_findExtreme_26 rfl (by decide) rfl ?_
      refine v_goto 8 rfl aX6_findExtreme_29 ?_
      refine ih (i + 1) _ (by omega) (by omega) (fun k k0 k1 => ?_) (by rw [upd2_row (by omega)]; exact hlen) (fun r r0 r1 => (upd2_row r1).trans (hk r r0 r1))
      rw [upd2_ap]
      by_cases e : k = i
      · rw [e, if_pos ⟨rfl, rfl⟩]
      · rw [if_neg (by omega)]; exact hv k k0 (by omega)
set_option maxHeartbeats 4000000 in
set_option maxRecDepth 100000 in
theorem c_X6_findExtreme {μ0 : Mu} {mo : Int} (hW : WlnS S w) (hq : S.2 q = some (aI 6)) (hqw : q ≠ w ∧ q ≠ w + 1) (hn : 2 ≤ n ∧ n ≤ 6) (hmo : 0 ≤ mo ∧ mo ≤ 1) (hT : ∀ i : Int, 0 ≤ i → i < 6 → 0 ≤ (μ0 q) i ∧ (μ0 q) i ≤ 99) : Ct l G cX6_findExtreme (yX6_findExtreme, 6, none, 2, 0, 0) [.ref w, .ref q, vi n, vi mo] S μ0 (Rw S (fun μ' => μ' w 2 = num10 (lnI n (exN mo (μ0 q) n (fcI n - 1)).1) n.toNat ∧ μ' w 3 = (exN mo (μ0 q) n (fcI n - 1)).2 ∧ (∀ r : Nat, r ≠ w → r ≠ w + 1 → μ' r = μ0 r))) := by
  refine Ct.of (by decide) rfl (by simp [vi, Value.category]) (Nat.le_of_ble_eq_true rfl) ?_
  refine v_aload_n aX6_findExtreme_0 rfl ?_
  refine v_iload_n aX6_findExtreme_1 rfl ?_
  refine v_pi 1 rfl aX6_findExtreme_2 fX6_15 nf6_1 ok6_1 hW.p rfl rfl ?_
  refine v_iconst aX6_findExtreme_5 ?_
  refine v_istore aX6_findExtreme_6 (by decide) rfl ?_
  refine l1_X6_findExtreme hW hq hqw hn hmo hT (fun μ L e1 e2 e3 => ?_) 7 0 _ (by omega) (by omega) (fun k k0 k1 => by omega) upd2_same (fun r r0 r1 => upd2_row r0)
  have hl0 : ∀ k : Int, 0 ≤ k → k < n → μ (w + 1) k = lnI n 0 k := fun k k0 k1 => (e1 k k0 k1).trans (ln_0 hn k k0 k1).symm
  have hfc := fc_r (n := n.toNat) (by omega)
  have hfc : 2 ≤ fcI n ∧ fcI n ≤ 720 := hfc
  have hq0 : μ q = μ0 q := e3 q hqw.1 hqw.2
  refine v_take 4 rfl ?_
  show V _ _ _ _ _ _ _ _ _ [.ref w, .ref q, vi n, vi mo] _
  refine v_aload_n aX6_findExtreme_32 rfl ?_
  refine v_aload_n aX6_findExtreme_33 rfl ?_
  refine v_cVi (c_X6_number hW (n := n) (by omega) e2) aX6_findExtreme_34 mX6_number vX6_number lX6_25 hW.p rfl rfl rfl rfl rfl (Nat.le_of_ble_eq_true rfl) ⟨Nat.le_of_ble_eq_true rfl, Nat.le_of_ble_eq_true rfl⟩ (Nat.le_of_ble_eq_true rfl) ?_
  refine v_pi 2 rfl aX6_findExtreme_37 fX6_29 nf6_2 ok6_2 hW.p rfl rfl ?_
  refine v_aload_n aX6_findExtreme_40 rfl ?_
  refine v_aload_n aX6_findExtreme_41 rfl ?_
  refine v_aload_n aX6_findExtreme_42 rfl ?_
  refine v_cVi (c_X6_pairsLeftOpen hW hq hn (by rw [upd2_ap, if_neg (by omega)]; exact e2) (by rw [upd2_row (by omega)]; exact (ln_pm hn (by omega)).c hl0) (by rw [upd2_row hqw.1, hq0]; exact hT)) aX6_findExtreme_43 mX6_pairsLeftOpen vX6_pairsLeftOpen lX6_32 hW.p rfl rfl rfl rfl rfl (Nat.le_of_ble_eq_true rfl) ⟨Nat.le_of_ble_eq_true rfl, Nat.le_of_ble_eq_true rfl⟩ (Nat.le_of_ble_eq_true rfl) ?_
  refine v_pi 3 rfl aX6_findExtreme_46 fX6_36 nf6_3 ok6_3 hW.p rfl rfl ?_
  refine v_iconst aX6_findExtreme_49 ?_
  refine v_istore aX6_findExtreme_50 (by decide) rfl ?_
  refine lo_X6_findExtreme hW hq hqw hn hmo hT 721 0 _ [] (by omega) (by omega) ⟨fun k k0 k1 => ?_, ?_, ?_, ?_, fun r r0 r1 => (upd2_row r0).trans ((upd2_row r0).trans (e3 r r0 r1))⟩
  · rw [upd2_row (by omega), upd2_row (by omega)]; exact hl0 k k0 k1
  · rw [upd2_ap, if_neg (by omega), upd2_ap, if_neg (by omega)]; exact e2
  · rw [upd2_ap, if_neg (by omega), upd2_same]
    exact num10_c _ (fun k k0 k1 => hl0 k k0 (by omega))
  · rw [upd2_same, upd2_row hqw.1, upd2_row (show w + 1 ≠ w by omega), hq0]
    exact (opl_c (by omega) hl0 (fun k k0 k1 => by rw [hl0 k k0 k1])).symm
end LB2
section LB3
variable {l : Launch} {G : Glb} {S : Sh} {μ : Mu} {x : Nat} {im pl : Nat → Option Nat} {t : BSt} {g : Int → Int} {n B : Int}
theorem exN_c {wh : Int} {T T' : Int → Int} {n : Int} (hn : 2 ≤ n ∧ n ≤ 6) (hT : ∀ i : Int, 0 ≤ i → i < 6 → T' i = T i) : ∀ j : Nat, j < fcI n → exN wh T n j = exN wh T' n j := by
  have e : ∀ j : Nat, j < fcI n → opl T (lnI n j) n = opl T' (lnI n j) n := fun j hj => opl_c (by omega) (fun _ _ _ => rfl) (fun k k0 k1 => by
    have := (ln_pm hn hj).1 k k0 k1
    exact hT _ this.1 (by omega))
  intro j
  induction j with
  | zero => intro h; rw [exN, exN, e 0 h]
  | succ j ih => intro h; rw [exN, exN, ih (by omega), e (j + 1) h]
set_option maxHeartbeats 4000000 in
set_option maxRecDepth 100000 in
theorem c_X7_lineBy {wh wa : Int} (hX : LsS S x im pl) (h : LsAt μ x t g n) (hok : StOk t B) (hwh : (-2147483648 ≤ wh ∧ wh < 2147483648)) (hwa : (-2147483648 ≤ wa ∧ wa < 2147483648)) : Ct l G cX7_lineBy (yX7_lineBy, 3, (some FieldType.int), 3, 0, 0) [.ref x, vi wh, vi wa] S μ (Re S (fun z μ' => z = sp_lineBy t wh wa ∧ LsAt μ' x t g n ∧ Out μ μ' x 33)) := by
  obtain ⟨o1, o2, o3, o4, o5⟩ := id hok
  have f6 : μ (x + 3) 6 = t.1 := h.1.1
  have hTT : ∀ i : Int, 0 ≤ i → i < 6 → 0 ≤ μ (x + 3 + 18) i ∧ μ (x + 3 + 18) i ≤ 99 := fun i i0 i1 => by rw [h.1.2.2.2.2.2.2.2.2 i i0 i1]; exact (o5 i i0 i1).2.2.2
  have hfc := fc_r (n := t.1.toNat) (by omega)
  have hfc : 2 ≤ fcI t.1 ∧ fcI t.1 ≤ 720 := hfc
  have hex : exN wh (μ (x + 3 + 18)) t.1 (fcI t.1 - 1) = exN wh t.2.2.2.2.2.2.2.2 t.1 (fcI t.1 - 1) := exN_c o1 (fun i i0 i1 => (h.1.2.2.2.2.2.2.2.2 i i0 i1).symm) _ (by omega)
  refine Ct.of (by decide) rfl (by simp [vi, Value.category]) (Nat.le_of_ble_eq_true rfl) ?_
  refine v_iload_n aX7_lineBy_0 rfl ?_
  refine v_if_lt 18 rfl aX7_lineBy_1 (by omega) (fun c1 => ?_) (fun c1 => ?_)
  · --
    refine v_bipush (by decide) aX7_lineBy_18 ?_
    refine v_ireturn aX7_lineBy_20 rfl ⟨Nat.le_refl _, Nat.le_refl _⟩ ?_
    rw [show sp_lineBy t wh wa = -2 from if_neg (by omega)]
    exact ⟨_, rfl, rfl, rfl, h, Out.rf⟩
  · --
    refine v_iload_n aX7_lineBy_4 rfl ?_
    refine v_iconst aX7_lineBy_5 ?_
    refine v_icmp_gt 18 rfl aX7_lineBy_6 (by omega) (by omega) (fun c6 => ?_) (fun c6 => ?_)
    · --
      refine v_bipush (by decide) aX7_lineBy_18 ?_
      refine v_ireturn aX7_lineBy_20 rfl ⟨Nat.le_refl _, Nat.le_refl _⟩ ?_
      rw [show sp_lineBy t wh wa = -2 from if_neg (by omega)]
      exact ⟨_, rfl, rfl, rfl, h, Out.rf⟩
    · --
      refine v_iload_n aX7_lineBy_9 rfl ?_
      refine v_if_lt 18 rfl aX7_lineBy_10 (by omega) (fun c10 => ?_) (fun c10 => ?_)
      · --
        refine v_bipush (by decide) aX7_lineBy_18 ?_
        refine v_ireturn aX7_lineBy_20 rfl ⟨Nat.le_refl _, Nat.le_refl _⟩ ?_
        rw [show sp_lineBy t wh wa = -2 from if_neg (by omega)]
        exact ⟨_, rfl, rfl, rfl, h, Out.rf⟩
      · --
        refine v_iload_n aX7_lineBy_13 rfl ?_
        refine v_iconst aX7_lineBy_14 ?_
        refine v_icmp_le 21 rfl aX7_lineBy_15 (by omega) (by omega) (fun c15 => ?_) (fun c15 => ?_)
        · --
          refine v_aload_n aX7_lineBy_21 rfl ?_
          refine v_getr aX7_lineBy_22 fX7_51 hX.p rfl rfl ?_
          refine v_aload_n aX7_lineBy_25 rfl ?_
          refine v_getr aX7_lineBy_26 fX7_19 hX.p rfl rfl ?_
          refine v_getr aX7_lineBy_29 fX7_211 hX.book.p rfl rfl ?_
          refine v_aload_n aX7_lineBy_32 rfl ?_
          refine v_getr aX7_lineBy_33 fX7_19 hX.p rfl rfl ?_
          refine v_gi 6 rfl aX7_lineBy_36 fX7_61 hX.book.p rfl rfl ?_
          rw [f6]
          refine v_iload_n aX7_lineBy_39 rfl ?_
          refine v_iconst aX7_lineBy_40 ?_
          refine v_icmp_ne 48 rfl aX7_lineBy_41 (by omega) (by omega) (fun c41 => ?_) (fun c41 => ?_)
          · --
            refine v_iconst aX7_lineBy_48 ?_
            refine v_top (w := wh) (by omega) ?_
            refine v_cVw (c_X6_findExtreme hX.weighedLine hX.book.p_weights (by omega) (n := t.1) (by omega) (mo := wh) (by omega) hTT) aX7_lineBy_49 mX6_findExtreme vX6_findExtreme lX7_221 hX.weighedLine.p rfl rfl rfl rfl rfl (Nat.le_of_ble_eq_true rfl) ⟨Nat.le_of_ble_eq_true rfl, Nat.le_of_ble_eq_true rfl⟩ (Nat.le_of_ble_eq_true rfl) (fun μ' ⟨r1, r2, r3⟩ => ?_)
            have hL : LsAt μ' x t g n := h.kp (fun q q0 q1 => r3 q (by omega) (by omega))
            have hO : Out μ μ' x 33 := fun q hq => r3 q (by omega) (by omega)
            refine v_iload_n aX7_lineBy_52 rfl ?_
            refine v_if_ne 66 rfl aX7_lineBy_53 (by omega) (fun c53 => ?_) (fun c53 => ?_)
            · --
              refine v_aload_n aX7_lineBy_66 rfl ?_
              refine v_getr aX7_lineBy_67 fX7_51 hX.p rfl rfl ?_
              refine v_gi 3 rfl aX7_lineBy_70 fX7_228 hX.weighedLine.p rfl rfl ?_
              refine v_ireturn aX7_lineBy_73 rfl ⟨Nat.le_refl _, Nat.le_refl _⟩ ?_
              refine ⟨_, rfl, rfl, ?_, hL, hO⟩
              unfold sp_lineBy
              rw [if_pos (by omega), if_neg (by omega), ← hex]
              exact r2
            · --
              refine v_aload_n aX7_lineBy_56 rfl ?_
              refine v_getr aX7_lineBy_57 fX7_51 hX.p rfl rfl ?_
              refine v_gi 2 rfl aX7_lineBy_60 fX7_225 hX.weighedLine.p rfl rfl ?_
              refine v_goto 73 rfl aX7_lineBy_63 ?_
              refine v_ireturn aX7_lineBy_73 rfl ⟨Nat.le_refl _, Nat.le_refl _⟩ ?_
              refine ⟨_, rfl, rfl, ?_, hL, hO⟩
              unfold sp_lineBy
              rw [if_pos (by omega), if_pos (by omega), ← hex]
              exact r1
          · --
            refine v_iconst aX7_lineBy_44 ?_
            refine v_goto 49 rfl aX7_lineBy_45 ?_
            refine v_top (w := wh) (by omega) ?_
            refine v_cVw (c_X6_findExtreme hX.weighedLine hX.book.p_weights (by omega) (n := t.1) (by omega) (mo := wh) (by omega) hTT) aX7_lineBy_49 mX6_findExtreme vX6_findExtreme lX7_221 hX.weighedLine.p rfl rfl rfl rfl rfl (Nat.le_of_ble_eq_true rfl) ⟨Nat.le_of_ble_eq_true rfl, Nat.le_of_ble_eq_true rfl⟩ (Nat.le_of_ble_eq_true rfl) (fun μ' ⟨r1, r2, r3⟩ => ?_)
            have hL : LsAt μ' x t g n := h.kp (fun q q0 q1 => r3 q (by omega) (by omega))
            have hO : Out μ μ' x 33 := fun q hq => r3 q (by omega) (by omega)
            refine v_iload_n aX7_lineBy_52 rfl ?_
            refine v_if_ne 66 rfl aX7_lineBy_53 (by omega) (fun c53 => ?_) (fun c53 => ?_)
            · --
              refine v_aload_n aX7_lineBy_66 rfl ?_
              refine v_getr aX7_lineBy_67 fX7_51 hX.p rfl rfl ?_
              refine v_gi 3 rfl aX7_lineBy_70 fX7_228 hX.weighedLine.p rfl rfl ?_
              refine v_ireturn aX7_lineBy_73 rfl ⟨Nat.le_refl _, Nat.le_refl _⟩ ?_
              refine ⟨_, rfl, rfl, ?_, hL, hO⟩
              unfold sp_lineBy
              rw [if_pos (by omega), if_neg (by omega), ← hex]
              exact r2
            · --
              refine v_aload_n aX7_lineBy_56 rfl ?_
              refine v_getr aX7_lineBy_57 fX7_51 hX.p rfl rfl ?_
              refine v_gi 2 rfl aX7_lineBy_60 fX7_225 hX.weighedLine.p rfl rfl ?_
              refine v_goto 73 rfl aX7_lineBy_63 ?_
              refine v_ireturn aX7_lineBy_73 rfl ⟨Nat.le_refl _, Nat.le_refl _⟩ ?_
              refine ⟨_, rfl, rfl, ?_, hL, hO⟩
              unfold sp_lineBy
              rw [if_pos (by omega), if_pos (by omega), ← hex]
              exact r1
        · --
          refine v_bipush (by decide) aX7_lineBy_18 ?_
          refine v_ireturn aX7_lineBy_20 rfl ⟨Nat.le_refl _, Nat.le_refl _⟩ ?_
          rw [show sp_lineBy t wh wa = -2 from if_neg (by omega)]
          exact ⟨_, rfl, rfl, rfl, h, Out.rf⟩
end LB3
