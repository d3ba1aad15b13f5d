/-! the planner: costs by recursion, fewest lifts, the first group to lay -/
/-- the least group that can be laid first without more lifts than the fewest -/
def FstQ (n : Int) (R : Rl) (y z : Int) : Prop := (vl n R y = 0 ∧ z = -1) ∨ (vl n R y ≠ 0 ∧ (0 ≤ z ∧ z < n) ∧ z ≠ y ∧ sgv n R y z = vl n R y ∧ ∀ g : Int, 0 ≤ g → g < z → g ≠ y → sgv n R y g ≠ vl n R y)
theorem FstQ_un {n : Int} {R : Rl} {y z z' : Int} (h : FstQ n R y z) (h' : FstQ n R y z') : z = z' := by
  rcases h with ⟨h1, h2⟩ | ⟨h1, h2, h3, h4, h5⟩ <;> rcases h' with ⟨k1, k2⟩ | ⟨k1, k2, k3, k4, k5⟩
  · omega
  · exact absurd h1 k1
  · exact absurd k1 h1
  · rcases Int.lt_trichotomy z z' with l | l | l
    · exact absurd h4 (k5 z h2.1 l h3)
    · exact l
    · exact absurd k4 (h5 z' k2.1 l k3)
theorem sgv_oi {n w y g H L w1 w2 : Int} (ho : OpR n (RB w) y g) (hg : 0 ≤ g ∧ g < n) (j1 : JB w g y w1) (j2 : JB w y g w2) (h1 : Pk n H (vl n (RB w1))) (h2 : Pk n L (vl n (RB w2))) : (sgv n (RB w) y g : Int) = 1 + max (nib H g) (nib L g) := by
  rw [sgv_o ho, h1.2 g hg.1 hg.2, h2.2 g hg.1 hg.2, j1.2, j2.2]
  omega
theorem op_iff {n w i j : Int} (hn : n ≤ 5) (hi : 0 ≤ i ∧ i < n) (hj : 0 ≤ j ∧ j < n) : (¬ tb w (5 * i + j) ∧ ¬ tb w (5 * j + i)) ↔ OpR n (RB w) i j := ⟨fun q => ⟨by omega, fun z => q.1 z.2.2, fun z => q.2 z.2.2⟩, fun q => ⟨fun z => q.2.1 ⟨by omega, by omega, z⟩, fun z => q.2.2 ⟨by omega, by omega, z⟩⟩⟩
section PLAN3
variable {l : Launch} {G : Glb} {S : Sh} {μ : Mu} {b : Nat} {n : Int} {N0 : Nat}
def CC (l : Launch) (G : Glb) (S : Sh) (b : Nat) (n : Int) (k : Nat) : Prop := ∀ (μ : Mu) (w d : Int), PlC μ b n → PlM μ b n → OW n w → n * (n - 1) / 2 - bcF w ≤ k → (0 ≤ d ∧ d ≤ bcF w) → Ct l G cX3_costs (yX3_costs, 4, (some FieldType.int), 2 * k + 4, 0, 0) [.ref b, vi w, vi d] S μ (Re S (fun z μ' => Pk n z (vl n (RB w)) ∧ Kp μ μ' b n))
set_option maxHeartbeats 4000000 in
set_option maxRecDepth 100000 in
theorem li_X3_costsOfTelling {k : Nat} {μ0 : Mu} {w d i : Int} (hP : PlnS S b N0) (hn : 1 ≤ n ∧ n ≤ 5) (hC : CC l G S b n k) (hw : OW n w) (hnw : ¬ WhR n (RB w)) (hk1 : n * (n - 1) / 2 - bcF w ≤ k + 1) (hd : 0 ≤ d ∧ d ≤ bcF w) (hi : 1 ≤ i ∧ i < n) (hh : ∀ (μ : Mu) (P : Int) (L : List Value), PlC μ b n → Kp μ0 μ b n → TL n w (i + 1) 0 P → V l G cX3_costsOfTelling (yX3_costsOfTelling, 8, (some FieldType.int), 2 * k + 5, 0, 0) (Re S (fun z μ' => Tld n w z ∧ Kp μ0 μ' b n)) (0, 0) S μ 14 ([.ref b, vi w, vi d, vi P, vi (i + 1)] ++ L) []) : ∀ (N : Nat) (j P : Int) (μ : Mu) (L : List Value), (0 ≤ j ∧ j ≤ i) → i - j < N → PlC μ b n → Kp μ0 μ b n → TL n w i j P → V l G cX3_costsOfTelling (yX3_costsOfTelling, 8, (some FieldType.int), 2 * k + 5, 0, 0) (Re S (fun z μ' => Tld n w z ∧ Kp μ0 μ' b n)) (0, 0) S μ 26 ([.ref b, vi w, vi d, vi P, vi i, vi j] ++ L) [] := by
  intro N
  induction N with
  | zero => intros; omega
  | succ N ih =>
    intro j P μ L h0 h1 hc hk hT
    have bw := bc_nn hn.2 hw
    refine v_take 6 rfl ?_
    show V _ _ _ _ _ _ _ _ _ [.ref b, vi w, vi d, vi P, vi i, vi j] _
    refine v_iload aX3_costsOfTelling_26 rfl ?_
    refine v_iload aX3_costsOfTelling_28 rfl ?_
    refine v_icmp_ge 122 rfl aX3_costsOfTelling_30 (by omega) (by omega) (fun c30 => ?_) (fun c30 => ?_)
    · --
      refine v_iinc aX3_costsOfTelling_122 rfl (Nat.le_of_ble_eq_true rfl) rfl ?_
      refine v_goto 14 rfl aX3_costsOfTelling_125 ?_
      obtain rfl : j = i := by omega
      exact hh _ P [vi j] hc hk (TL_next hT)
    · --
      refine v_iload_n aX3_costsOfTelling_33 rfl ?_
      refine v_iload aX3_costsOfTelling_34 rfl ?_
      refine v_iload aX3_costsOfTelling_36 rfl ?_
      refine v_cSi (c_X3_isOpen (by omega) (by omega)) aX3_costsOfTelling_38 mX3_isOpen sX3_isOpen lX3_66 rfl rfl (by dsimp only; omega) ⟨Nat.le_of_ble_eq_true rfl, Nat.le_of_ble_eq_true rfl⟩ (Nat.le_of_ble_eq_true rfl) ?_
      have eo := op_iff (w := w) (i := i) (j := j) hn.2 (by omega) (by omega)
      refine v_if_eq_b 116 rfl aX3_costsOfTelling_41 (fun c41 => ?_) (fun c41 => ?_)
      · --
        refine v_iinc aX3_costsOfTelling_116 rfl (Nat.le_of_ble_eq_true rfl) rfl ?_
        refine v_goto 26 rfl aX3_costsOfTelling_119 ?_
        exact ih (j + 1) P _ [] (by omega) (by omega) hc hk (TL_skip hT (by omega) (by omega) (fun q => c41 (eo.mpr q)))
      · --
        refine v_aload_n aX3_costsOfTelling_44 rfl ?_
        refine v_aload_n aX3_costsOfTelling_45 rfl ?_
        refine v_iload_n aX3_costsOfTelling_46 rfl ?_
        refine v_iload aX3_costsOfTelling_47 rfl ?_
        refine v_iload aX3_costsOfTelling_49 rfl ?_
        refine v_cVe (c_X3_joined hP hn hc.1 hw (by omega) (by omega)) aX3_costsOfTelling_51 mX3_joined vX3_joined lX3_70 hP.p rfl rfl rfl rfl rfl (by dsimp only; omega) ⟨Nat.le_of_ble_eq_true rfl, Nat.le_of_ble_eq_true rfl⟩ (Nat.le_of_ble_eq_true rfl) (fun w1 μ1 ⟨e1, j1⟩ => ?_)
        subst e1
        have ho := eo.mp c41
        have ow1 := j1.ow hw (by omega) (by omega) (by omega) ho.2.2
        have bc1 := bc_join hn hw ow1 j1 (by omega) (by omega) (by omega) ho.2.1 ho.2.2
        refine v_iload_n aX3_costsOfTelling_54 rfl ?_
        refine v_iconst aX3_costsOfTelling_55 ?_
        refine v_iadd aX3_costsOfTelling_56 ?_
        refine v_cVe (hC _ w1 (d + 1) hc hk.1 ow1 (by omega) (by omega)) aX3_costsOfTelling_57 mX3_costs vX3_costs lX3_47 hP.p rfl rfl rfl rfl rfl (by dsimp only; omega) ⟨Nat.le_of_ble_eq_true rfl, Nat.le_of_ble_eq_true rfl⟩ (Nat.le_of_ble_eq_true rfl) (fun H μ2 ⟨H1, H2⟩ => ?_)
        have hc2 := hc.kp H2
        refine v_istore aX3_costsOfTelling_60 (Nat.le_of_ble_eq_true rfl) rfl ?_
        refine v_aload_n aX3_costsOfTelling_62 rfl ?_
        refine v_aload_n aX3_costsOfTelling_63 rfl ?_
        refine v_iload_n aX3_costsOfTelling_64 rfl ?_
        refine v_iload aX3_costsOfTelling_65 rfl ?_
        refine v_iload aX3_costsOfTelling_67 rfl ?_
        refine v_cVe (c_X3_joined hP hn hc2.1 hw (by omega) (by omega)) aX3_costsOfTelling_69 mX3_joined vX3_joined lX3_70 hP.p rfl rfl rfl rfl rfl (by dsimp only; omega) ⟨Nat.le_of_ble_eq_true rfl, Nat.le_of_ble_eq_true rfl⟩ (Nat.le_of_ble_eq_true rfl) (fun w2 μ3 ⟨e3, j2⟩ => ?_)
        subst e3
        have ow2 := j2.ow hw (by omega) (by omega) (by omega) ho.2.1
        have bc2 := bc_join hn hw ow2 j2 (by omega) (by omega) (by omega) ho.2.2 ho.2.1
        refine v_iload_n aX3_costsOfTelling_72 rfl ?_
        refine v_iconst aX3_costsOfTelling_73 ?_
        refine v_iadd aX3_costsOfTelling_74 ?_
        refine v_cVe (hC _ w2 (d + 1) hc2 H2.1 ow2 (by omega) (by omega)) aX3_costsOfTelling_75 mX3_costs vX3_costs lX3_47 hP.p rfl rfl rfl rfl rfl (by dsimp only; omega) ⟨Nat.le_of_ble_eq_true rfl, Nat.le_of_ble_eq_true rfl⟩ (Nat.le_of_ble_eq_true rfl) (fun L2 μ4 ⟨L1, L3⟩ => ?_)
        have hc3 := hc2.kp L3
        refine v_istore aX3_costsOfTelling_78 (Nat.le_of_ble_eq_true rfl) rfl ?_
        refine v_iload_n aX3_costsOfTelling_80 rfl ?_
        refine v_iload aX3_costsOfTelling_81 rfl ?_
        refine v_iconst aX3_costsOfTelling_83 ?_
        refine v_iload aX3_costsOfTelling_84 rfl ?_
        refine v_iload aX3_costsOfTelling_86 rfl ?_
        refine v_iload aX3_costsOfTelling_88 rfl ?_
        refine v_cSi (c_X3_worse (by omega)) aX3_costsOfTelling_90 mX3_worse sX3_worse lX3_73 rfl rfl (by dsimp only; omega) ⟨Nat.le_of_ble_eq_true rfl, Nat.le_of_ble_eq_true rfl⟩ (Nat.le_of_ble_eq_true rfl) ?_
        refine v_iadd aX3_costsOfTelling_93 ?_
        have r1 := nib_r (P := H) (y := i) (by omega)
        have r2 := nib_r (P := L2) (y := i) (by omega)
        refine v_cSe (c_X3_withLess hT.1 (by omega) (by omega)) aX3_costsOfTelling_94 mX3_withLess sX3_withLess lX3_76 rfl rfl (by dsimp only; omega) ⟨Nat.le_of_ble_eq_true rfl, Nat.le_of_ble_eq_true rfl⟩ (Nat.le_of_ble_eq_true rfl) (fun Q μ5 ⟨e5, q0, q1, q2⟩ => ?_)
        subst e5
        refine v_istore_n aX3_costsOfTelling_97 (Nat.le_of_ble_eq_true rfl) rfl ?_
        refine v_iload_n aX3_costsOfTelling_98 rfl ?_
        refine v_iload aX3_costsOfTelling_99 rfl ?_
        refine v_iconst aX3_costsOfTelling_101 ?_
        refine v_iload aX3_costsOfTelling_102 rfl ?_
        refine v_iload aX3_costsOfTelling_104 rfl ?_
        refine v_iload aX3_costsOfTelling_106 rfl ?_
        refine v_cSi (c_X3_worse (by omega)) aX3_costsOfTelling_108 mX3_worse sX3_worse lX3_73 rfl rfl (by dsimp only; omega) ⟨Nat.le_of_ble_eq_true rfl, Nat.le_of_ble_eq_true rfl⟩ (Nat.le_of_ble_eq_true rfl) ?_
        refine v_iadd aX3_costsOfTelling_111 ?_
        have r3 := nib_r (P := H) (y := j) (by omega)
        have r4 := nib_r (P := L2) (y := j) (by omega)
        refine v_cSe (c_X3_withLess q0 (by omega) (by omega)) aX3_costsOfTelling_112 mX3_withLess sX3_withLess lX3_76 rfl rfl (by dsimp only; omega) ⟨Nat.le_of_ble_eq_true rfl, Nat.le_of_ble_eq_true rfl⟩ (Nat.le_of_ble_eq_true rfl) (fun z μ6 ⟨e6, z0, z1, z2⟩ => ?_)
        subst e6
        refine v_istore_n aX3_costsOfTelling_115 (Nat.le_of_ble_eq_true rfl) rfl ?_
        refine v_iinc aX3_costsOfTelling_116 rfl (Nat.le_of_ble_eq_true rfl) rfl ?_
        refine v_goto 26 rfl aX3_costsOfTelling_119 ?_
        refine ih (j + 1) z _ [vi H, vi L2] (by omega) (by omega) hc3 ((hk.trans H2).trans L3) (TL_yes hn hw hT (by omega) (by omega) z0 ?_ q2 ?_ z2)
        · rw [q1, sgv_oi (OpR_s ho (by omega)) (by omega) j1 j2 H1 L1]
        · rw [z1, sgv_oi ho (by omega) j2 j1 L1 H1]
          omega
set_option maxHeartbeats 4000000 in
set_option maxRecDepth 100000 in
theorem lo_X3_costsOfTelling {k : Nat} {μ0 : Mu} {w d : Int} (hP : PlnS S b N0) (hn : 1 ≤ n ∧ n ≤ 5) (hC : CC l G S b n k) (hw : OW n w) (hnw : ¬ WhR n (RB w)) (hk1 : n * (n - 1) / 2 - bcF w ≤ k + 1) (hd : 0 ≤ d ∧ d ≤ bcF w) : ∀ (N : Nat) (i P : Int) (μ : Mu) (L : List Value), (1 ≤ i ∧ i ≤ n) → n - i < N → PlC μ b n → Kp μ0 μ b n → TL n w i 0 P → V l G cX3_costsOfTelling (yX3_costsOfTelling, 8, (some FieldType.int), 2 * k + 5, 0, 0) (Re S (fun z μ' => Tld n w z ∧ Kp μ0 μ' b n)) (0, 0) S μ 14 ([.ref b, vi w, vi d, vi P, vi i] ++ L) [] := by
  intro N
  induction N with
  | zero => intros; omega
  | succ N ih =>
    intro i P μ L h0 h1 hc hk hT
    have hc1 := hc.1
    refine v_take 5 rfl ?_
    show V _ _ _ _ _ _ _ _ _ [.ref b, vi w, vi d, vi P, vi i] _
    refine v_iload aX3_costsOfTelling_14 rfl ?_
    refine v_aload_n aX3_costsOfTelling_16 rfl ?_
    refine v_gi 0 rfl aX3_costsOfTelling_17 fX3_18 hP.p rfl rfl ?_
    refine v_icmp_ge 128 rfl aX3_costsOfTelling_20 (by omega) (by omega) (fun c20 => ?_) (fun c20 => ?_)
    · --
      refine v_iload_n aX3_costsOfTelling_128 rfl ?_
      refine v_ireturn aX3_costsOfTelling_129 rfl ⟨Nat.le_refl _, Nat.le_refl _⟩ ?_
      obtain rfl : i = n := by omega
      exact ⟨_, rfl, rfl, TL_end hT, hk⟩
    · --
      refine v_iconst aX3_costsOfTelling_23 ?_
      refine v_istore aX3_costsOfTelling_24 (Nat.le_of_ble_eq_true rfl) rfl ?_
      exact li_X3_costsOfTelling hP hn hC hw hnw hk1 hd (by omega) (fun μ2 P2 L2 a1 a2 a3 => ih (i + 1) P2 μ2 L2 (by omega) (by omega) a1 a2 a3) 6 0 P _ [] (by omega) (by omega) hc hk hT
set_option maxHeartbeats 4000000 in
set_option maxRecDepth 100000 in
theorem c_X3_costsOfTelling {k : Nat} {w d : Int} (hP : PlnS S b N0) (hn : 1 ≤ n ∧ n ≤ 5) (hC : CC l G S b n k) (hw : OW n w) (hnw : ¬ WhR n (RB w)) (hk1 : n * (n - 1) / 2 - bcF w ≤ k + 1) (hd : 0 ≤ d ∧ d ≤ bcF w) (hc : PlC μ b n) (hm : PlM μ b n) : Ct l G cX3_costsOfTelling (yX3_costsOfTelling, 8, (some FieldType.int), 2 * k + 5, 0, 0) [.ref b, vi w, vi d] S μ (Re S (fun z μ' => Tld n w z ∧ Kp μ μ' b n)) := by
  refine Ct.of (show plainName yX3_costsOfTelling.cls = true by decide) rfl (by simp [vi, Value.category]) (Nat.le_of_ble_eq_true rfl) ?_
  refine v_iconst aX3_costsOfTelling_0 ?_
  refine v_aload_n aX3_costsOfTelling_1 rfl ?_
  refine v_gi 0 rfl aX3_costsOfTelling_2 fX3_18 hP.p rfl rfl ?_
  rw [hc.1]
  refine v_iconst aX3_costsOfTelling_5 ?_
  refine v_imul aX3_costsOfTelling_6 ?_
  refine v_ishl aX3_costsOfTelling_7 ?_
  refine v_iconst aX3_costsOfTelling_8 ?_
  refine v_isub aX3_costsOfTelling_9 ?_
  refine v_istore_n aX3_costsOfTelling_10 (Nat.le_of_ble_eq_true rfl) rfl ?_
  refine v_iconst aX3_costsOfTelling_11 ?_
  refine v_istore aX3_costsOfTelling_12 (Nat.le_of_ble_eq_true rfl) rfl ?_
  exact lo_X3_costsOfTelling hP hn hC hw hnw hk1 hd 6 1 _ _ [] (by omega) (by omega) hc ⟨hm, fun _ _ => rfl⟩ (TL_0 hn hw)
set_option maxHeartbeats 4000000 in
set_option maxRecDepth 100000 in
theorem cs_X3_costs {D : Nat} {w d : Int} (hP : PlnS S b N0) (hn : 1 ≤ n ∧ n ≤ 5) (hN0 : N0 = cdN (n - 1).toNat) (hD : 3 ≤ D) (hc : PlC μ b n) (hm : PlM μ b n) (hw : OW n w) (hd : 0 ≤ d ∧ d ≤ bcF w) (hF : ¬ WhR n (RB w) → Ct l G cX3_costsOfTelling (yX3_costsOfTelling, 8, (some FieldType.int), D, 0, 0) [.ref b, vi w, vi d] S μ (Re S (fun z μ' => Tld n w z ∧ Kp μ μ' b n))) : Ct l G cX3_costs (yX3_costs, 4, (some FieldType.int), D + 1, 0, 0) [.ref b, vi w, vi d] S μ (Re S (fun z μ' => Pk n z (vl n (RB w)) ∧ Kp μ μ' b n)) := by
  have bw := bc_nn hn.2 hw
  have pr := pr_r hn
  have nr := cdN_r hn
  refine Ct.of (show plainName yX3_costs.cls = true by decide) rfl (by simp [vi, Value.category]) (Nat.le_of_ble_eq_true rfl) ?_
  refine v_aload_n aX3_costs_0 rfl ?_
  refine v_iload_n aX3_costs_1 rfl ?_
  refine v_cVi (c_X3_isWhole hP hn hc.1 hc.2 hw) aX3_costs_2 mX3_isWhole vX3_isWhole lX3_43 hP.p rfl rfl rfl rfl rfl (by dsimp only; omega) ⟨Nat.le_of_ble_eq_true rfl, Nat.le_of_ble_eq_true rfl⟩ (Nat.le_of_ble_eq_true rfl) ?_
  have eb := hw.whole hn
  have bp := hc.2
  refine v_if_ne_b 16 rfl aX3_costs_5 (fun c5 => ?_) (fun c5 => ?_)
  · --
    refine v_iconst aX3_costs_16 ?_
    refine v_ireturn aX3_costs_17 rfl ⟨Nat.le_refl _, Nat.le_refl _⟩ ?_
    exact ⟨0, rfl, rfl, Pk_0 hn hw c5, hm, fun _ _ => rfl⟩
  · --
    refine v_iload_n aX3_costs_8 rfl ?_
    refine v_aload_n aX3_costs_9 rfl ?_
    refine v_gi 1 rfl aX3_costs_10 fX3_24 hP.p rfl rfl ?_
    refine v_icmp_le 18 rfl aX3_costs_13 (by omega) (by omega) (fun c13 => ?_) (fun c13 => ?_)
    · --
      refine v_aload_n aX3_costs_18 rfl ?_
      refine v_iload_n aX3_costs_19 rfl ?_
      refine v_cVi (c_X3_codeOf hP hn hc.1) aX3_costs_20 mX3_codeOf vX3_codeOf lX3_57 hP.p rfl rfl rfl rfl rfl (by dsimp only; omega) ⟨Nat.le_of_ble_eq_true rfl, Nat.le_of_ble_eq_true rfl⟩ (Nat.le_of_ble_eq_true rfl) ?_
      have cr := cdO_r (w := w) (n - 1).toNat
      refine v_istore_n aX3_costs_23 (Nat.le_of_ble_eq_true rfl) rfl ?_
      refine v_iload_n aX3_costs_24 rfl ?_
      refine v_aload_n aX3_costs_25 rfl ?_
      refine v_getr aX3_costs_26 fX3_31 hP.p rfl rfl ?_
      refine v_alen (kk := 100) rfl aX3_costs_29 hP.p_found rfl ?_
      have en : (aI N0).2.1 = N0 := rfl
      refine v_icmp_lt 35 rfl aX3_costs_30 (by omega) (by omega) (fun c30 => ?_) (fun c30 => ?_)
      · --
        refine v_aload_n aX3_costs_35 rfl ?_
        refine v_getr aX3_costs_36 fX3_31 hP.p rfl rfl ?_
        refine v_iload_n aX3_costs_39 rfl ?_
        refine v_iald aX3_costs_40 hP.p_found (by omega) (by omega) ?_
        have rm : -2147483648 ≤ μ (b + 1) (cdO w (n - 1).toNat) ∧ μ (b + 1) (cdO w (n - 1).toNat) < 2147483648 := by
          rcases hm w hw c5 with q | q
          · omega
          · have q1 := q.1.1
            have q2 := q.1.2
            rw [show (2 : Nat) ^ 20 = 1048576 from rfl] at q2
            omega
        refine v_if_ne 61 rfl aX3_costs_41 (by omega) (fun c41 => ?_) (fun c41 => ?_)
        · --
          refine v_aload_n aX3_costs_61 rfl ?_
          refine v_getr aX3_costs_62 fX3_31 hP.p rfl rfl ?_
          refine v_iload_n aX3_costs_65 rfl ?_
          refine v_iald aX3_costs_66 hP.p_found (by omega) (by omega) ?_
          refine v_ireturn aX3_costs_67 rfl ⟨Nat.le_refl _, Nat.le_refl _⟩ ?_
          exact ⟨_, rfl, rfl, (hm w hw c5).resolve_left c41, hm, fun _ _ => rfl⟩
        · --
          refine v_aload_n aX3_costs_44 rfl ?_
          refine v_getr aX3_costs_45 fX3_31 hP.p rfl rfl ?_
          refine v_iload_n aX3_costs_48 rfl ?_
          refine v_aload_n aX3_costs_49 rfl ?_
          refine v_iload_n aX3_costs_50 rfl ?_
          refine v_aload_n aX3_costs_51 rfl ?_
          refine v_iload_n aX3_costs_52 rfl ?_
          refine v_iload_n aX3_costs_53 rfl ?_
          refine v_cVe (hF c5) aX3_costs_54 mX3_costsOfTelling vX3_costsOfTelling lX3_60 hP.p rfl rfl rfl rfl rfl (by dsimp only; omega) ⟨Nat.le_of_ble_eq_true rfl, Nat.le_of_ble_eq_true rfl⟩ (Nat.le_of_ble_eq_true rfl) (fun P1 μ1 ⟨t1, t2⟩ => ?_)
          refine v_cVe (c_X3_withDetours hP hn (hc.kp t2).1 hw c5 t1) aX3_costs_57 mX3_withDetours vX3_withDetours lX3_63 hP.p rfl rfl rfl rfl rfl (by dsimp only; omega) ⟨Nat.le_of_ble_eq_true rfl, Nat.le_of_ble_eq_true rfl⟩ (Nat.le_of_ble_eq_true rfl) (fun z μ' ⟨z0, z1⟩ => ?_)
          subst z0
          refine v_iast aX3_costs_60 hP.p_found (by omega) (by omega) ?_
          refine v_aload_n aX3_costs_61 rfl ?_
          refine v_getr aX3_costs_62 fX3_31 hP.p rfl rfl ?_
          refine v_iload_n aX3_costs_65 rfl ?_
          refine v_iald aX3_costs_66 hP.p_found (by omega) (by omega) ?_
          refine v_ireturn aX3_costs_67 rfl ⟨Nat.le_refl _, Nat.le_refl _⟩ ?_
          rw [upd2_same]
          exact ⟨_, rfl, rfl, z1, PlM_put hn hw t2 z1⟩
      · omega
    · exact absurd (show n * (n - 1) / 2 ≤ bcF w by omega) (fun q => c5 (eb.mp q))
theorem c_X3_costs (hP : PlnS S b N0) (hn : 1 ≤ n ∧ n ≤ 5) (hN0 : N0 = cdN (n - 1).toNat) : ∀ k : Nat, CC l G S b n k
  | 0 => fun μ w d hc hm hw hk hd => cs_X3_costs (D := 3) hP hn hN0 (Nat.le_refl _) hc hm hw hd (fun q => absurd ((hw.whole hn).mp (by omega)) q)
  | k + 1 => fun μ w d hc hm hw hk hd => by
    have h := cs_X3_costs (D := 2 * k + 5) (l := l) (G := G) hP hn hN0 (by omega) hc hm hw hd (fun q => c_X3_costsOfTelling hP hn (c_X3_costs hP hn hN0 k) hw q (by omega) hd hc hm)
    rw [show 2 * (k + 1) + 4 = 2 * k + 5 + 1 by omega]
    exact h
theorem c_costs {w d : Int} (hP : PlnS S b N0) (hn : 1 ≤ n ∧ n ≤ 5) (hN0 : N0 = cdN (n - 1).toNat) (hc : PlC μ b n) (hm : PlM μ b n) (hw : OW n w) (hd : 0 ≤ d ∧ d ≤ bcF w) : Ct l G cX3_costs (yX3_costs, 4, (some FieldType.int), 24, 0, 0) [.ref b, vi w, vi d] S μ (Re S (fun z μ' => Pk n z (vl n (RB w)) ∧ Kp μ μ' b n)) := by
  have bw := bc_nn hn.2 hw
  have pr := pr_r hn
  exact c_X3_costs hP hn hN0 10 μ w d hc hm hw (by omega) hd
set_option maxHeartbeats 4000000 in
set_option maxRecDepth 100000 in
theorem c_X3_costOfLaying {w y g : Int} (hP : PlnS S b N0) (hn : 1 ≤ n ∧ n ≤ 5) (hN0 : N0 = cdN (n - 1).toNat) (hc : PlC μ b n) (hm : PlM μ b n) (hw : OW n w) (hy : y = -1 ∨ (0 ≤ y ∧ y < n)) (hg : 0 ≤ g ∧ g < n) (hne : g ≠ y) : Ct l G cX3_costOfLaying (yX3_costOfLaying, 6, (some FieldType.int), 25, 0, 0) [.ref b, vi w, vi y, vi g] S μ (Re S (fun z μ' => z = (sgv n (RB w) y g : Int) ∧ Kp μ μ' b n)) := by
  have bw := bc_nn hn.2 hw
  refine Ct.of (by decide) rfl (by simp [vi, Value.category]) (Nat.le_of_ble_eq_true rfl) ?_
  refine v_iload_n aX3_costOfLaying_0 rfl ?_
  refine v_iconst aX3_costOfLaying_1 ?_
  refine v_icmp_eq 14 rfl aX3_costOfLaying_2 (by omega) (by omega) (fun c2 => ?_) (fun c2 => ?_)
  · --
    refine v_iconst aX3_costOfLaying_14 ?_
    refine v_aload_n aX3_costOfLaying_15 rfl ?_
    refine v_iload_n aX3_costOfLaying_16 rfl ?_
    refine v_iconst aX3_costOfLaying_17 ?_
    refine v_cVe (c_costs hP hn hN0 hc hm hw (by omega)) aX3_costOfLaying_18 mX3_costs vX3_costs lX3_47 hP.p rfl rfl rfl rfl rfl (Nat.le_of_ble_eq_true rfl) ⟨Nat.le_of_ble_eq_true rfl, Nat.le_of_ble_eq_true rfl⟩ (Nat.le_of_ble_eq_true rfl) (fun z μ' ⟨z1, z2⟩ => ?_)
    refine v_iload_n aX3_costOfLaying_21 rfl ?_
    refine v_cSi (c_X3_costWith) aX3_costOfLaying_22 mX3_costWith sX3_costWith lX3_50 rfl rfl (Nat.le_of_ble_eq_true rfl) ⟨Nat.le_of_ble_eq_true rfl, Nat.le_of_ble_eq_true rfl⟩ (Nat.le_of_ble_eq_true rfl) ?_
    refine v_iadd aX3_costOfLaying_25 ?_
    refine v_ireturn aX3_costOfLaying_26 rfl ⟨Nat.le_refl _, Nat.le_refl _⟩ ?_
    refine ⟨_, rfl, rfl, ?_, z2⟩
    rw [sgv_n (fun q => by have := q.1; omega), z1.2 g hg.1 hg.2]
    omega
  · --
    refine v_iload_n aX3_costOfLaying_5 rfl ?_
    refine v_iload_n aX3_costOfLaying_6 rfl ?_
    refine v_iload_n aX3_costOfLaying_7 rfl ?_
    refine v_cSi (c_X3_isOpen (by omega) (by omega)) aX3_costOfLaying_8 mX3_isOpen sX3_isOpen lX3_66 rfl rfl (Nat.le_of_ble_eq_true rfl) ⟨Nat.le_of_ble_eq_true rfl, Nat.le_of_ble_eq_true rfl⟩ (Nat.le_of_ble_eq_true rfl) ?_
    have eo := op_iff (w := w) (i := y) (j := g) hn.2 (by omega) (by omega)
    refine v_if_ne_b 27 rfl aX3_costOfLaying_11 (fun c11 => ?_) (fun c11 => ?_)
    · --
      refine v_aload_n aX3_costOfLaying_27 rfl ?_
      refine v_aload_n aX3_costOfLaying_28 rfl ?_
      refine v_iload_n aX3_costOfLaying_29 rfl ?_
      refine v_iload_n aX3_costOfLaying_30 rfl ?_
      refine v_iload_n aX3_costOfLaying_31 rfl ?_
      refine v_cVe (c_X3_joined hP hn hc.1 hw (by omega) (by omega)) aX3_costOfLaying_32 mX3_joined vX3_joined lX3_70 hP.p rfl rfl rfl rfl rfl (Nat.le_of_ble_eq_true rfl) ⟨Nat.le_of_ble_eq_true rfl, Nat.le_of_ble_eq_true rfl⟩ (Nat.le_of_ble_eq_true rfl) (fun w1 μ1 ⟨e1, j1⟩ => ?_)
      subst e1
      have ho := eo.mp c11
      have ow1 := j1.ow hw (by omega) (by omega) (by omega) ho.2.1
      have bc1 := bc_join hn hw ow1 j1 (by omega) (by omega) (by omega) ho.2.2 ho.2.1
      refine v_iconst aX3_costOfLaying_35 ?_
      refine v_cVe (c_costs hP hn hN0 hc hm ow1 (by omega)) aX3_costOfLaying_36 mX3_costs vX3_costs lX3_47 hP.p rfl rfl rfl rfl rfl (Nat.le_of_ble_eq_true rfl) ⟨Nat.le_of_ble_eq_true rfl, Nat.le_of_ble_eq_true rfl⟩ (Nat.le_of_ble_eq_true rfl) (fun H μ2 ⟨H1, H2⟩ => ?_)
      have hc2 := hc.kp H2
      refine v_istore aX3_costOfLaying_39 (by decide) rfl ?_
      refine v_aload_n aX3_costOfLaying_41 rfl ?_
      refine v_aload_n aX3_costOfLaying_42 rfl ?_
      refine v_iload_n aX3_costOfLaying_43 rfl ?_
      refine v_iload_n aX3_costOfLaying_44 rfl ?_
      refine v_iload_n aX3_costOfLaying_45 rfl ?_
      refine v_cVe (c_X3_joined hP hn hc2.1 hw (by omega) (by omega)) aX3_costOfLaying_46 mX3_joined vX3_joined lX3_70 hP.p rfl rfl rfl rfl rfl (Nat.le_of_ble_eq_true rfl) ⟨Nat.le_of_ble_eq_true rfl, Nat.le_of_ble_eq_true rfl⟩ (Nat.le_of_ble_eq_true rfl) (fun w2 μ3 ⟨e3, j2⟩ => ?_)
      subst e3
      have ow2 := j2.ow hw (by omega) (by omega) (by omega) ho.2.2
      have bc2 := bc_join hn hw ow2 j2 (by omega) (by omega) (by omega) ho.2.1 ho.2.2
      refine v_iconst aX3_costOfLaying_49 ?_
      refine v_cVe (c_costs hP hn hN0 hc2 H2.1 ow2 (by omega)) aX3_costOfLaying_50 mX3_costs vX3_costs lX3_47 hP.p rfl rfl rfl rfl rfl (Nat.le_of_ble_eq_true rfl) ⟨Nat.le_of_ble_eq_true rfl, Nat.le_of_ble_eq_true rfl⟩ (Nat.le_of_ble_eq_true rfl) (fun L2 μ4 ⟨L1, L3⟩ => ?_)
      refine v_istore aX3_costOfLaying_53 (by decide) rfl ?_
      refine v_iconst aX3_costOfLaying_55 ?_
      refine v_iload aX3_costOfLaying_56 rfl ?_
      refine v_iload aX3_costOfLaying_58 rfl ?_
      refine v_iload_n aX3_costOfLaying_60 rfl ?_
      refine v_cSi (c_X3_worse (by omega)) aX3_costOfLaying_61 mX3_worse sX3_worse lX3_73 rfl rfl (Nat.le_of_ble_eq_true rfl) ⟨Nat.le_of_ble_eq_true rfl, Nat.le_of_ble_eq_true rfl⟩ (Nat.le_of_ble_eq_true rfl) ?_
      refine v_iadd aX3_costOfLaying_64 ?_
      refine v_ireturn aX3_costOfLaying_65 rfl ⟨Nat.le_refl _, Nat.le_refl _⟩ ?_
      exact ⟨_, rfl, rfl, (sgv_oi ho hg j1 j2 H1 L1).symm, H2.trans L3⟩
    · --
      refine v_iconst aX3_costOfLaying_14 ?_
      refine v_aload_n aX3_costOfLaying_15 rfl ?_
      refine v_iload_n aX3_costOfLaying_16 rfl ?_
      refine v_iconst aX3_costOfLaying_17 ?_
      refine v_cVe (c_costs hP hn hN0 hc hm hw (by omega)) aX3_costOfLaying_18 mX3_costs vX3_costs lX3_47 hP.p rfl rfl rfl rfl rfl (Nat.le_of_ble_eq_true rfl) ⟨Nat.le_of_ble_eq_true rfl, Nat.le_of_ble_eq_true rfl⟩ (Nat.le_of_ble_eq_true rfl) (fun z μ' ⟨z1, z2⟩ => ?_)
      refine v_iload_n aX3_costOfLaying_21 rfl ?_
      refine v_cSi (c_X3_costWith) aX3_costOfLaying_22 mX3_costWith sX3_costWith lX3_50 rfl rfl (Nat.le_of_ble_eq_true rfl) ⟨Nat.le_of_ble_eq_true rfl, Nat.le_of_ble_eq_true rfl⟩ (Nat.le_of_ble_eq_true rfl) ?_
      refine v_iadd aX3_costOfLaying_25 ?_
      refine v_ireturn aX3_costOfLaying_26 rfl ⟨Nat.le_refl _, Nat.le_refl _⟩ ?_
      refine ⟨_, rfl, rfl, ?_, z2⟩
      rw [sgv_n (fun q => c11 (eo.mpr q)), z1.2 g hg.1 hg.2]
      omega
set_option maxHeartbeats 4000000 in
set_option maxRecDepth 100000 in
theorem li_X3_fewestLifts {μ0 : Mu} {w y : Int} (hP : PlnS S b N0) (hn : 1 ≤ n ∧ n ≤ 5) (hN0 : N0 = cdN (n - 1).toNat) (hw : OW n w) (hnw : ¬ WhR n (RB w)) (hy : y = -1) : ∀ (N : Nat) (i f : Int) (μ : Mu), (0 ≤ i ∧ i ≤ n) → n - i < N → PlC μ b n → Kp μ0 μ b n → ((vl n (RB w) y : Int) ≤ f ∧ f ≤ 15) → (∀ g : Int, 0 ≤ g → g < i → f ≤ (sgv n (RB w) y g : Int)) → V l G cX3_fewestLifts (yX3_fewestLifts, 5, (some FieldType.int), 26, 0, 0) (Re S (fun z μ' => z = (vl n (RB w) y : Int) ∧ Kp μ0 μ' b n)) (0, 0) S μ 32 [.ref b, vi w, vi y, vi f, vi i] [] := by
  intro N
  induction N with
  | zero => intros; omega
  | succ N ih =>
    intro i f μ h0 h1 hc hk hf hg
    have hc1 := hc.1
    refine v_iload aX3_fewestLifts_32 rfl ?_
    refine v_aload_n aX3_fewestLifts_34 rfl ?_
    refine v_gi 0 rfl aX3_fewestLifts_35 fX3_18 hP.p rfl rfl ?_
    refine v_icmp_ge 60 rfl aX3_fewestLifts_38 (by omega) (by omega) (fun c38 => ?_) (fun c38 => ?_)
    · --
      refine v_iload_n aX3_fewestLifts_60 rfl ?_
      refine v_ireturn aX3_fewestLifts_61 rfl ⟨Nat.le_refl _, Nat.le_refl _⟩ ?_
      obtain ⟨g, gr, gn, ge⟩ := vl_ex (y := y) hn hw.2 hnw
      have := hg g gr.1 (by omega)
      exact ⟨_, rfl, rfl, by omega, hk⟩
    · --
      refine v_iload_n aX3_fewestLifts_41 rfl ?_
      refine v_aload_n aX3_fewestLifts_42 rfl ?_
      refine v_iload_n aX3_fewestLifts_43 rfl ?_
      refine v_iconst aX3_fewestLifts_44 ?_
      refine v_iload aX3_fewestLifts_45 rfl ?_
      refine v_cVe (c_X3_costOfLaying (y := -1) hP hn hN0 hc hk.1 hw (Or.inl rfl) (by omega) (by omega)) aX3_fewestLifts_47 mX3_costOfLaying vX3_costOfLaying lX3_53 hP.p rfl rfl rfl rfl rfl (Nat.le_of_ble_eq_true rfl) ⟨Nat.le_of_ble_eq_true rfl, Nat.le_of_ble_eq_true rfl⟩ (Nat.le_of_ble_eq_true rfl) (fun z μ' ⟨z1, z2⟩ => ?_)
      have v1 := vl_sgv (R := RB w) (y := y) (g := i) hn hw.2 (by omega) (by omega)
      rw [← hy] at z1
      have v2 : sgv n (RB w) y i ≤ 12 := by
        rw [sgv_n (fun q => by have := q.1; omega)]
        have := vl_11 hn hw.2 i
        omega
      refine v_min (by omega) (by omega) lmX3_9 aX3_fewestLifts_50 (Nat.le_of_ble_eq_true rfl) ⟨Nat.le_of_ble_eq_true rfl, Nat.le_of_ble_eq_true rfl⟩ (Nat.le_of_ble_eq_true rfl) ?_
      refine v_istore_n aX3_fewestLifts_53 (by decide) rfl ?_
      refine v_iinc aX3_fewestLifts_54 rfl (by decide) rfl ?_
      refine v_goto 32 rfl aX3_fewestLifts_57 ?_
      refine ih (i + 1) _ _ (by omega) (by omega) (hc.kp z2) (hk.trans z2) (by omega) (fun g g0 g1 => ?_)
      by_cases e : g = i
      · rw [e]; omega
      · have := hg g g0 (by omega)
        omega
set_option maxHeartbeats 4000000 in
set_option maxRecDepth 100000 in
theorem c_X3_fewestLifts {w y : Int} (hP : PlnS S b N0) (hn : 1 ≤ n ∧ n ≤ 5) (hN0 : N0 = cdN (n - 1).toNat) (hc : PlC μ b n) (hm : PlM μ b n) (hw : OW n w) (hy : y = -1 ∨ (0 ≤ y ∧ y < n)) : Ct l G cX3_fewestLifts (yX3_fewestLifts, 5, (some FieldType.int), 26, 0, 0) [.ref b, vi w, vi y] S μ (Re S (fun z μ' => z = (vl n (RB w) y : Int) ∧ Kp μ μ' b n)) := by
  have bw := bc_nn hn.2 hw
  have v0 := vl_0 (G := n) (R := RB w) hn hw.2 y
  have v11 := vl_11 (G := n) (R := RB w) hn hw.2 y
  refine Ct.of (by decide) rfl (by simp [vi, Value.category]) (Nat.le_of_ble_eq_true rfl) ?_
  refine v_aload_n aX3_fewestLifts_0 rfl ?_
  refine v_iload_n aX3_fewestLifts_1 rfl ?_
  refine v_cVi (c_X3_isWhole hP hn hc.1 hc.2 hw) aX3_fewestLifts_2 mX3_isWhole vX3_isWhole lX3_43 hP.p rfl rfl rfl rfl rfl (Nat.le_of_ble_eq_true rfl) ⟨Nat.le_of_ble_eq_true rfl, Nat.le_of_ble_eq_true rfl⟩ (Nat.le_of_ble_eq_true rfl) ?_
  refine v_if_eq_b 10 rfl aX3_fewestLifts_5 (fun c5 => ?_) (fun c5 => ?_)
  · --
    refine v_iload_n aX3_fewestLifts_10 rfl ?_
    refine v_iconst aX3_fewestLifts_11 ?_
    refine v_icmp_eq 26 rfl aX3_fewestLifts_12 (by omega) (by omega) (fun c12 => ?_) (fun c12 => ?_)
    · --
      refine v_bipush (by decide) aX3_fewestLifts_26 ?_
      refine v_istore_n aX3_fewestLifts_28 (by decide) rfl ?_
      refine v_iconst aX3_fewestLifts_29 ?_
      refine v_istore aX3_fewestLifts_30 (by decide) rfl ?_
      exact li_X3_fewestLifts hP hn hN0 hw c5 c12 6 0 15 _ (by omega) (by omega) hc ⟨hm, fun _ _ => rfl⟩ (by omega) (fun g g0 g1 => by omega)
    · --
      refine v_aload_n aX3_fewestLifts_15 rfl ?_
      refine v_iload_n aX3_fewestLifts_16 rfl ?_
      refine v_iconst aX3_fewestLifts_17 ?_
      refine v_cVe (c_costs hP hn hN0 hc hm hw (by omega)) aX3_fewestLifts_18 mX3_costs vX3_costs lX3_47 hP.p rfl rfl rfl rfl rfl (Nat.le_of_ble_eq_true rfl) ⟨Nat.le_of_ble_eq_true rfl, Nat.le_of_ble_eq_true rfl⟩ (Nat.le_of_ble_eq_true rfl) (fun z μ' ⟨z1, z2⟩ => ?_)
      refine v_iload_n aX3_fewestLifts_21 rfl ?_
      refine v_cSi (c_X3_costWith) aX3_fewestLifts_22 mX3_costWith sX3_costWith lX3_50 rfl rfl (Nat.le_of_ble_eq_true rfl) ⟨Nat.le_of_ble_eq_true rfl, Nat.le_of_ble_eq_true rfl⟩ (Nat.le_of_ble_eq_true rfl) ?_
      refine v_ireturn aX3_fewestLifts_25 rfl ⟨Nat.le_refl _, Nat.le_refl _⟩ ?_
      exact ⟨_, rfl, rfl, z1.2 y (by omega) (by omega), z2⟩
  · --
    refine v_iconst aX3_fewestLifts_8 ?_
    refine v_ireturn aX3_fewestLifts_9 rfl ⟨Nat.le_refl _, Nat.le_refl _⟩ ?_
    exact ⟨0, rfl, rfl, by rw [v0.mpr c5]; rfl, hm, fun _ _ => rfl⟩
set_option maxHeartbeats 4000000 in
set_option maxRecDepth 100000 in
theorem li_X3_firstOf {μ0 : Mu} {w y f : Int} (hP : PlnS S b N0) (hn : 1 ≤ n ∧ n ≤ 5) (hN0 : N0 = cdN (n - 1).toNat) (hw : OW n w) (hy : y = -1 ∨ (0 ≤ y ∧ y < n)) (hf : f = (vl n (RB w) y : Int)) (hf0 : f ≠ 0) : ∀ (N : Nat) (i : Int) (μ : Mu), (0 ≤ i ∧ i ≤ n) → n - i < N → PlC μ b n → Kp μ0 μ b n → (∀ g : Int, 0 ≤ g → g < i → g ≠ y → sgv n (RB w) y g ≠ vl n (RB w) y) → V l G cX3_firstOf (yX3_firstOf, 5, (some FieldType.int), 26, 0, 0) (Re S (fun z μ' => FstQ n (RB w) y z ∧ Kp μ0 μ' b n)) (0, 0) S μ 9 [.ref b, vi w, vi y, vi f, vi i] [] := by
  intro N
  induction N with
  | zero => intros; omega
  | succ N ih =>
    intro i μ h0 h1 hc hk hg
    have hc1 := hc.1
    have v11 := vl_11 (G := n) (R := RB w) hn hw.2 y
    refine v_iload aX3_firstOf_9 rfl ?_
    refine v_aload_n aX3_firstOf_11 rfl ?_
    refine v_gi 0 rfl aX3_firstOf_12 fX3_18 hP.p rfl rfl ?_
    refine v_icmp_ge 45 rfl aX3_firstOf_15 (by omega) (by omega) (fun c15 => ?_) (fun c15 => ?_)
    · have hw0 : ¬ WhR n (RB w) := fun q => hf0 (by rw [hf, (vl_0 hn hw.2 y).mpr q]; rfl)
      obtain ⟨g, gr, gn, ge⟩ := vl_ex (y := y) hn hw.2 hw0
      exact absurd ge.symm (hg g gr.1 (by omega) gn)
    · --
      refine v_iload aX3_firstOf_18 rfl ?_
      refine v_iload_n aX3_firstOf_20 rfl ?_
      refine v_icmp_eq 39 rfl aX3_firstOf_21 (by omega) (by omega) (fun c21 => ?_) (fun c21 => ?_)
      · --
        refine v_iinc aX3_firstOf_39 rfl (by decide) rfl ?_
        refine v_goto 9 rfl aX3_firstOf_42 ?_
        refine ih (i + 1) _ (by omega) (by omega) hc hk (fun g g0 g1 g2 => ?_)
        by_cases e : g = i
        · exact absurd (e.trans c21) g2
        · exact hg g g0 (by omega) g2
      · --
        refine v_aload_n aX3_firstOf_24 rfl ?_
        refine v_iload_n aX3_firstOf_25 rfl ?_
        refine v_iload_n aX3_firstOf_26 rfl ?_
        refine v_iload aX3_firstOf_27 rfl ?_
        refine v_cVe (c_X3_costOfLaying hP hn hN0 hc hk.1 hw hy (by omega) c21) aX3_firstOf_29 mX3_costOfLaying vX3_costOfLaying lX3_53 hP.p rfl rfl rfl rfl rfl (Nat.le_of_ble_eq_true rfl) ⟨Nat.le_of_ble_eq_true rfl, Nat.le_of_ble_eq_true rfl⟩ (Nat.le_of_ble_eq_true rfl) (fun z μ' ⟨z1, z2⟩ => ?_)
        have v2 : sgv n (RB w) y i ≤ 12 := by
          by_cases q : OpR n (RB w) y i
          · rw [sgv_o q]
            have a1 := vl_11 hn (jn_spo hw.2 (a := i) (b := y) (by omega) q.1 c21 q.2.1) i
            have a2 := vl_11 hn (jn_spo hw.2 (a := y) (b := i) q.1 (by omega) (fun z => c21 z.symm) q.2.2) i
            omega
          · rw [sgv_n q]
            have := vl_11 hn hw.2 i
            omega
        refine v_iload_n aX3_firstOf_32 rfl ?_
        refine v_icmp_ne 39 rfl aX3_firstOf_33 (by omega) (by omega) (fun c33 => ?_) (fun c33 => ?_)
        · --
          refine v_iinc aX3_firstOf_39 rfl (by decide) rfl ?_
          refine v_goto 9 rfl aX3_firstOf_42 ?_
          refine ih (i + 1) _ (by omega) (by omega) (hc.kp z2) (hk.trans z2) (fun g g0 g1 g2 => ?_)
          by_cases e : g = i
          · rw [e]; omega
          · exact hg g g0 (by omega) g2
        · --
          refine v_iload aX3_firstOf_36 rfl ?_
          refine v_ireturn aX3_firstOf_38 rfl ⟨Nat.le_refl _, Nat.le_refl _⟩ ?_
          exact ⟨i, rfl, rfl, Or.inr ⟨by omega, by omega, c21, by omega, hg⟩, hk.trans z2⟩
set_option maxHeartbeats 4000000 in
set_option maxRecDepth 100000 in
theorem c_X3_firstOf {w y f : Int} (hP : PlnS S b N0) (hn : 1 ≤ n ∧ n ≤ 5) (hN0 : N0 = cdN (n - 1).toNat) (hc : PlC μ b n) (hm : PlM μ b n) (hw : OW n w) (hy : y = -1 ∨ (0 ≤ y ∧ y < n)) (hf : f = (vl n (RB w) y : Int)) : Ct l G cX3_firstOf (yX3_firstOf, 5, (some FieldType.int), 26, 0, 0) [.ref b, vi w, vi y, vi f] S μ (Re S (fun z μ' => FstQ n (RB w) y z ∧ Kp μ μ' b n)) := by
  have v11 := vl_11 (G := n) (R := RB w) hn hw.2 y
  refine Ct.of (by decide) rfl (by simp [vi, Value.category]) (Nat.le_of_ble_eq_true rfl) ?_
  refine v_iload_n aX3_firstOf_0 rfl ?_
  refine v_if_ne 6 rfl aX3_firstOf_1 (by omega) (fun c1 => ?_) (fun c1 => ?_)
  · --
    refine v_iconst aX3_firstOf_6 ?_
    refine v_istore aX3_firstOf_7 (by decide) rfl ?_
    exact li_X3_firstOf hP hn hN0 hw hy hf c1 6 0 _ (by omega) (by omega) hc ⟨hm, fun _ _ => rfl⟩ (fun g g0 g1 => by omega)
  · --
    refine v_iconst aX3_firstOf_4 ?_
    refine v_ireturn aX3_firstOf_5 rfl ⟨Nat.le_refl _, Nat.le_refl _⟩ ?_
    exact ⟨_, rfl, rfl, Or.inl ⟨by omega, rfl⟩, hm, fun _ _ => rfl⟩
end PLAN3
