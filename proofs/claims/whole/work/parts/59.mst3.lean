/-! the model: the values of the stands by rounds; which sack next -/
theorem FstQ_out {n : Int} {R : Rl} {y y' z : Int} (hn : 1 ≤ n ∧ n ≤ 5) (h : SPO n R) (hy : ¬ (0 ≤ y ∧ y < n)) (hy' : ¬ (0 ≤ y' ∧ y' < n)) (q : FstQ n R y z) : FstQ n R y' z := by
  have e := vl_out hn h hy hy'
  rcases q with ⟨q1, q2⟩ | ⟨q1, q2, q3, q4, q5⟩
  · exact Or.inl ⟨by rw [← e]; exact q1, q2⟩
  · refine Or.inr ⟨by rw [← e]; exact q1, q2, fun z => hy' (by rw [← z]; exact q2), ?_, fun g g0 g1 g2 => ?_⟩
    · rw [sgv_out hy' hy, ← e]; exact q4
    · rw [sgv_out hy' hy, ← e]
      exact q5 g g0 g1 (fun z => hy (by rw [← z]; omega))
/-- all is laid: every stand and what may follow it is there -/
def Lyd (μ : Mu) (m : Nat) (gn : Int) : Prop := TbA μ m gn ∧ 1 ≤ μ m 17 ∧ ∀ k : Int, 0 ≤ k → k < μ m 17 → ¬ WhR gn (RB (μ (m + 13) k)) → Dn μ m gn k gn
theorem Lyd.val {μ : Mu} {m : Nat} {gn i v : Int} (h : Lyd μ m gn) : Lyd (upd2 μ (m + 15) i v) m gn := by
  have e : ∀ q : Nat, q ≠ m + 15 → upd2 μ (m + 15) i v q = μ q := fun q hq => upd2_row hq
  refine ⟨h.1.val, by rw [e m (by omega)]; exact h.2.1, fun k k0 k1 hw => ?_⟩
  rw [e m (by omega)] at k1
  rw [e (m + 13) (by omega)] at hw
  exact (h.2.2 k k0 k1 hw).val
theorem LyS.lyd {μ0 μ : Mu} {m : Nat} {gn a y : Int} (hn : 1 ≤ gn ∧ gn ≤ 5) (h : LyS μ0 μ m gn a y (μ m 17)) : Lyd μ m gn ∧ VM μ m gn 0 0 := by
  refine ⟨⟨h.1, h.2.1.2, fun k k0 k1 hw => ((h.2.2.2.1 k k0 k1).2 hw).2⟩, fun j j0 j1 => ?_⟩
  rw [if_neg (show ¬ j < 0 by omega)]
  have hok := (h.1.2.2.2.2.2 j j0 j1).1
  have hd := h.2.2.2.1 j j0 j1
  have e := vl_0 (R := RB (μ (m + 13) j)) hn hok.2 (μ (m + 14) j)
  by_cases hw : WhR gn (RB (μ (m + 13) j))
  · have e2 : VlK μ m gn j = 0 := by unfold VlK; rw [e.mpr hw]; rfl
    rw [e2, if_pos (by decide)]; exact hd.1 hw
  · have e2 : ¬ VlK μ m gn j ≤ 0 := fun q => hw (e.mp (by unfold VlK at q; omega))
    rw [if_neg e2]; exact (hd.2 hw).1
theorem VM.r {μ : Mu} {m : Nat} {gn r k : Int} (hn : 1 ≤ gn ∧ gn ≤ 5) (hT : TbA μ m gn) (h : VM μ m gn r k) : ∀ j : Int, 0 ≤ j → j < μ m 17 → -6 ≤ μ (m + 15) j ∧ μ (m + 15) j ≤ 1000 := by
  intro j j0 j1
  have hok := (hT.2.2.2.2.2 j j0 j1).1
  have e := vl_11 hn hok.2 (μ (m + 14) j)
  have e2 : VlK μ m gn j = (vl gn (RB (μ (m + 13) j)) (μ (m + 14) j) : Int) := rfl
  rw [h j j0 j1]
  by_cases q : VlK μ m gn j ≤ (if j < k then r + 1 else r)
  · rw [if_pos q]; omega
  · rw [if_neg q]; omega
/-- the order of the groups in the model's bits -/
theorem GO_yes' {R : Rl} {n i j r : Int} (h : GO R n i j r) (hi : 0 ≤ i ∧ i < 5) (hj : 0 ≤ j ∧ j < 5) (hy : GR R n i j) : GO R n i (j + 1) (iOr r (iShl 1 (5 * i + j))) := by
  rw [show 5 * i + j = i * 5 + j by omega]; exact GO_yes h hi hj hy
section MST3
variable {l : Launch} {G : Glb} {S : Sh} {μ : Mu} {m : Nat} {gn : Int} {t : BSt} {g : Int → Int} {n B : Int}
set_option maxHeartbeats 4000000 in
set_option maxRecDepth 100000 in
theorem li_X8_layValues {μ0 : Mu} {r k : Int} (hM : ModS S m) (hn : 1 ≤ gn ∧ gn ≤ 5) (hr : 0 ≤ r ∧ r ≤ 100) (hh : ∀ (μ : Mu) (L : List Value), μ m 13 = gn → Lyd μ m gn → VM μ m gn r (k + 1) → k < μ m 17 → (∀ q : Nat, q ≠ m + 15 → μ q = μ0 q) → V l G cX8_layValues (yX8_layValues, 5, none, 4, 0, 0) (Rw S (fun μ' => Lyd μ' m gn ∧ VM μ' m gn (VlK μ' m gn 0) 0 ∧ ∀ q : Nat, q ≠ m + 15 → μ' q = μ0 q)) (0, 0) S μ 13 ([.ref m, vi r, vi (k + 1)] ++ L) []) : ∀ (N : Nat) (g : Int) (μ : Mu) (L : List Value), (0 ≤ g ∧ g ≤ gn) → gn - g < N → μ m 13 = gn → Lyd μ m gn → VM μ m gn r k → (0 ≤ k ∧ k < μ m 17) → (∀ q : Nat, q ≠ m + 15 → μ q = μ0 q) → ¬ VlK μ m gn k ≤ r → (∀ g' : Int, 0 ≤ g' → g' < g → g' ≠ μ (m + 14) k → ¬ (sgv gn (RB (μ (m + 13) k)) (μ (m + 14) k) g' : Int) ≤ r + 1) → V l G cX8_layValues (yX8_layValues, 5, none, 4, 0, 0) (Rw S (fun μ' => Lyd μ' m gn ∧ VM μ' m gn (VlK μ' m gn 0) 0 ∧ ∀ q : Nat, q ≠ m + 15 → μ' q = μ0 q)) (0, 0) S μ 39 ([.ref m, vi r, vi k, vi 0, vi g] ++ L) [] := by
  intro N
  induction N with
  | zero => intros; omega
  | succ N ih =>
    intro g μ L h0 h1 hg hL hV hk hq hu hno
    have nr := hL.1.1
    have hok := (hL.1.2.2.2.2.2 k hk.1 hk.2).1
    have hnw : ¬ WhR gn (RB (μ (m + 13) k)) := fun q => hu (by
      have := (vl_0 hn hok.2 (μ (m + 14) k)).mpr q
      unfold VlK
      omega)
    have hD := hL.2.2 k hk.1 hk.2 hnw
    have v6 : μ (m + 15) k = -6 := by rw [hV k hk.1 hk.2, if_neg (show ¬ k < k by omega), if_neg hu]
    have hdo := fun hg1 : 0 ≤ g ∧ g < gn => DoP_sgv hn hL.1 hk hg1 hD hV hr.1
    refine v_take 5 rfl ?_
    show V _ _ _ _ _ _ _ _ _ [.ref m, vi r, vi k, vi 0, vi g] _
    refine v_iload aX8_layValues_39 rfl ?_
    refine v_aload_n aX8_layValues_41 rfl ?_
    refine v_gi 13 rfl aX8_layValues_42 fX8_118 hM.p rfl rfl ?_
    refine v_icmp_ge 85 rfl aX8_layValues_45 (by omega) (by omega) (fun c45 => ?_) (fun c45 => ?_)
    · --
      refine v_iinc aX8_layValues_85 rfl (by decide) rfl ?_
      refine v_goto 13 rfl aX8_layValues_88 ?_
      refine hh _ [vi 0, vi g] hg hL (hV.same (fun _ _ => ?_)) hk.2 hq
      rw [v6, if_neg (fun q => ?_)]
      obtain ⟨g', gr, gne, ge⟩ := vl_ex (y := μ (m + 14) k) hn hok.2 hnw
      refine hno g' gr.1 (by omega) gne ?_
      unfold VlK at q
      omega
    · --
      refine v_iload_n aX8_layValues_48 rfl ?_
      refine v_if_ne 85 rfl aX8_layValues_49 (by omega) (fun c49 => ?_) (fun c49 => ?_)
      · exact absurd rfl c49
      · --
        refine v_aload_n aX8_layValues_52 rfl ?_
        refine v_iload_n aX8_layValues_53 rfl ?_
        refine v_iload aX8_layValues_54 rfl ?_
        refine v_iload_n aX8_layValues_56 rfl ?_
        refine v_cVi (c_X8_does hM hg hn hL.1 hk (by omega) hD (hV.r hn hL.1) (by omega)) aX8_layValues_57 mX8_does vX8_does lX8_158 hM.p rfl rfl rfl rfl rfl (Nat.le_of_ble_eq_true rfl) ⟨Nat.le_of_ble_eq_true rfl, Nat.le_of_ble_eq_true rfl⟩ (Nat.le_of_ble_eq_true rfl) ?_
        refine v_istore_n aX8_layValues_60 (by decide) rfl ?_
        refine v_aload_n aX8_layValues_61 rfl ?_
        refine v_getr aX8_layValues_62 fX8_57 hM.p rfl rfl ?_
        refine v_iload_n aX8_layValues_65 rfl ?_
        refine v_iload_n aX8_layValues_66 rfl ?_
        refine v_if_eq_b 76 rfl aX8_layValues_67 (fun c67 => ?_) (fun c67 => ?_)
        · --
          refine v_bipush (by decide) aX8_layValues_76 ?_
          refine v_iast aX8_layValues_78 hM.p_value (by omega) (by decide) ?_
          refine v_iinc aX8_layValues_79 rfl (by decide) rfl ?_
          refine v_goto 39 rfl aX8_layValues_82 ?_
          refine v_mu (upd2_id v6) ?_
          rw [b2i_f c67]
          refine ih (g + 1) _ [] (by omega) (by omega) hg hL hV hk hq hu (fun g' g0 g1 g2 => ?_)
          by_cases e : g' = g
          · subst e
            exact fun q => c67 ((hdo (by omega)).mpr ⟨g2, q⟩)
          · exact hno g' g0 (by omega) g2
        · --
          refine v_iload_n aX8_layValues_70 rfl ?_
          refine v_iconst aX8_layValues_71 ?_
          refine v_iadd aX8_layValues_72 ?_
          refine v_goto 78 rfl aX8_layValues_73 ?_
          refine v_iast aX8_layValues_78 hM.p_value (by omega) (by decide) ?_
          refine v_iinc aX8_layValues_79 rfl (by decide) rfl ?_
          refine v_goto 39 rfl aX8_layValues_82 ?_
          have hs := (hdo (by omega)).mp c67
          have hle := vl_sgv (R := RB (μ (m + 13) k)) (y := μ (m + 14) k) (g := g) hn hok.2 (by omega) hs.1
          have hv : VlK μ m gn k = r + 1 := by
            unfold VlK at hu ⊢
            omega
          rw [b2i_t c67]
          have em : upd2 μ (m + 15) k (r + 1) m = μ m := upd2_row (by omega)
          have hgm : upd2 μ (m + 15) k (r + 1) m 13 = gn := by rw [em]; exact hg
          refine v_iload aX8_layValues_39 rfl ?_
          refine v_aload_n aX8_layValues_41 rfl ?_
          refine v_gi 13 rfl aX8_layValues_42 fX8_118 hM.p rfl rfl ?_
          rw [hgm]
          refine v_icmp_ge 85 rfl aX8_layValues_45 (by omega) (by omega) (fun c45 => ?_) (fun c45 => ?_)
          · --
            refine v_iinc aX8_layValues_85 rfl (by decide) rfl ?_
            refine v_goto 13 rfl aX8_layValues_88 ?_
            refine hh _ [vi _, vi _] hgm hL.val (hV.put (by rw [hv, if_pos (Int.le_refl _)])) (by rw [em]; exact hk.2) (fun q hq2 => (upd2_row hq2).trans (hq q hq2))
          · --
            refine v_iload_n aX8_layValues_48 rfl ?_
            refine v_if_ne 85 rfl aX8_layValues_49 (by omega) (fun c49 => ?_) (fun c49 => ?_)
            · --
              refine v_iinc aX8_layValues_85 rfl (by decide) rfl ?_
              refine v_goto 13 rfl aX8_layValues_88 ?_
              refine hh _ [vi _, vi _] hgm hL.val (hV.put (by rw [hv, if_pos (Int.le_refl _)])) (by rw [em]; exact hk.2) (fun q hq2 => (upd2_row hq2).trans (hq q hq2))
            · exact absurd c49 (by decide)
set_option maxHeartbeats 4000000 in
set_option maxRecDepth 100000 in
theorem lo_X8_layValues {μ0 : Mu} {r : Int} (hM : ModS S m) (hn : 1 ≤ gn ∧ gn ≤ 5) (hr : 0 ≤ r ∧ r ≤ 100) (hh : ∀ (μ : Mu) (L : List Value), μ m 13 = gn → Lyd μ m gn → VM μ m gn (r + 1) 0 → (∀ q : Nat, q ≠ m + 15 → μ q = μ0 q) → V l G cX8_layValues (yX8_layValues, 5, none, 4, 0, 0) (Rw S (fun μ' => Lyd μ' m gn ∧ VM μ' m gn (VlK μ' m gn 0) 0 ∧ ∀ q : Nat, q ≠ m + 15 → μ' q = μ0 q)) (0, 0) S μ 2 ([.ref m, vi (r + 1)] ++ L) []) : ∀ (N : Nat) (k : Int) (μ : Mu) (L : List Value), (0 ≤ k ∧ k ≤ μ m 17) → μ m 17 - k < N → μ m 13 = gn → Lyd μ m gn → VM μ m gn r k → (∀ q : Nat, q ≠ m + 15 → μ q = μ0 q) → V l G cX8_layValues (yX8_layValues, 5, none, 4, 0, 0) (Rw S (fun μ' => Lyd μ' m gn ∧ VM μ' m gn (VlK μ' m gn 0) 0 ∧ ∀ q : Nat, q ≠ m + 15 → μ' q = μ0 q)) (0, 0) S μ 13 ([.ref m, vi r, vi k] ++ L) [] := by
  intro N
  induction N with
  | zero => intros; omega
  | succ N ih =>
    intro k μ L h0 h1 hg hL hV hq
    have nr := hL.1.1
    refine v_take 3 rfl ?_
    show V _ _ _ _ _ _ _ _ _ [.ref m, vi r, vi k] _
    refine v_iload_n aX8_layValues_13 rfl ?_
    refine v_aload_n aX8_layValues_14 rfl ?_
    refine v_gi 17 rfl aX8_layValues_15 fX8_139 hM.p rfl rfl ?_
    refine v_icmp_ge 91 rfl aX8_layValues_18 (by omega) (by omega) (fun c18 => ?_) (fun c18 => ?_)
    · --
      refine v_iinc aX8_layValues_91 rfl (by decide) rfl ?_
      refine v_goto 2 rfl aX8_layValues_94 ?_
      obtain rfl : k = μ m 17 := by omega
      exact hh μ [vi _] hg hL hV.round hq
    · --
      refine v_aload_n aX8_layValues_21 rfl ?_
      refine v_getr aX8_layValues_22 fX8_57 hM.p rfl rfl ?_
      refine v_iload_n aX8_layValues_25 rfl ?_
      refine v_iald aX8_layValues_26 hM.p_value (by omega) (by decide) ?_
      have vr := hV.r hn hL.1 k h0.1 (by omega)
      have vk := hV k h0.1 (by omega)
      rw [if_neg (show ¬ k < k by omega)] at vk
      have vn : 0 ≤ VlK μ m gn k := by unfold VlK; omega
      refine v_if_lt 34 rfl aX8_layValues_27 (by omega) (fun c27 => ?_) (fun c27 => ?_)
      · --
        refine v_iconst aX8_layValues_34 ?_
        refine v_istore_n aX8_layValues_35 (by decide) rfl ?_
        refine v_iconst aX8_layValues_36 ?_
        refine v_istore aX8_layValues_37 (by decide) rfl ?_
        have hu : ¬ VlK μ m gn k ≤ r := fun q => by
          rw [if_pos q] at vk; omega
        refine li_X8_layValues hM hn hr (fun μ2 L2 a1 a2 a3 a4 a5 => ?_) 6 0 μ [] (by omega) (by omega) hg hL hV ⟨h0.1, by omega⟩ hq hu (fun g' g0 g1 => by omega)
        have e17 : μ2 m 17 = μ m 17 := by rw [a5 m (by omega), hq m (by omega)]
        exact ih (k + 1) μ2 L2 (by omega) (by omega) a1 a2 a3 a5
      · --
        refine v_iconst aX8_layValues_30 ?_
        refine v_goto 35 rfl aX8_layValues_31 ?_
        refine v_istore_n aX8_layValues_35 (by decide) rfl ?_
        refine v_iconst aX8_layValues_36 ?_
        refine v_istore aX8_layValues_37 (by decide) rfl ?_
        have hs : VlK μ m gn k ≤ r := Classical.not_not.mp fun q => by
          rw [if_neg q] at vk; omega
        rw [if_pos hs] at vk
        refine v_iload aX8_layValues_39 rfl ?_
        refine v_aload_n aX8_layValues_41 rfl ?_
        refine v_gi 13 rfl aX8_layValues_42 fX8_118 hM.p rfl rfl ?_
        refine v_icmp_ge 85 rfl aX8_layValues_45 (by omega) (by omega) (fun c45 => ?_) (fun c45 => ?_)
        · omega
        · --
          refine v_iload_n aX8_layValues_48 rfl ?_
          refine v_if_ne 85 rfl aX8_layValues_49 (by omega) (fun c49 => ?_) (fun c49 => ?_)
          · --
            refine v_iinc aX8_layValues_85 rfl (by decide) rfl ?_
            refine v_goto 13 rfl aX8_layValues_88 ?_
            exact ih (k + 1) μ [vi _, vi _] (by omega) (by omega) hg hL (hV.same (fun _ _ => by rw [vk, if_pos (by omega)])) hq
          · exact absurd c49 (by decide)
set_option maxHeartbeats 4000000 in
set_option maxRecDepth 100000 in
theorem lr_X8_layValues {μ0 : Mu} (hM : ModS S m) (hn : 1 ≤ gn ∧ gn ≤ 5) : ∀ (N : Nat) (r : Int) (μ : Mu) (L : List Value), 0 ≤ r → VlK μ0 m gn 0 - r < N → r ≤ VlK μ0 m gn 0 → μ m 13 = gn → Lyd μ m gn → VM μ m gn r 0 → (∀ q : Nat, q ≠ m + 15 → μ q = μ0 q) → V l G cX8_layValues (yX8_layValues, 5, none, 4, 0, 0) (Rw S (fun μ' => Lyd μ' m gn ∧ VM μ' m gn (VlK μ' m gn 0) 0 ∧ ∀ q : Nat, q ≠ m + 15 → μ' q = μ0 q)) (0, 0) S μ 2 ([.ref m, vi r] ++ L) [] := by
  intro N
  induction N with
  | zero => intros; omega
  | succ N ih =>
    intro r μ L hr0 h1 hr hg hL hV hq
    have nr := hL.1.1
    have n1 := hL.2.1
    have ev : VlK μ m gn 0 = VlK μ0 m gn 0 := by unfold VlK; rw [hq (m + 13) (by omega), hq (m + 14) (by omega)]
    have hok := (hL.1.2.2.2.2.2 0 (by decide) (by omega)).1
    have v11 : VlK μ m gn 0 ≤ 11 := by
      have := vl_11 hn hok.2 (μ (m + 14) 0)
      unfold VlK
      omega
    have v0 := hV 0 (by decide) (by omega)
    rw [if_neg (show ¬ (0 : Int) < 0 by decide)] at v0
    have vn : 0 ≤ VlK μ m gn 0 := by unfold VlK; omega
    have vr := hV.r hn hL.1 0 (by decide) (by omega)
    refine v_take 2 rfl ?_
    show V _ _ _ _ _ _ _ _ _ [.ref m, vi r] _
    refine v_aload_n aX8_layValues_2 rfl ?_
    refine v_getr aX8_layValues_3 fX8_57 hM.p rfl rfl ?_
    refine v_iconst aX8_layValues_6 ?_
    refine v_iald aX8_layValues_7 hM.p_value (by omega) (by decide) ?_
    refine v_if_ge 97 rfl aX8_layValues_8 (by omega) (fun c8 => ?_) (fun c8 => ?_)
    · --
      refine v_return aX8_layValues_97 rfl ⟨Nat.le_refl _, Nat.le_refl _⟩ ?_
      have hs : VlK μ m gn 0 ≤ r := Classical.not_not.mp fun q => by
        rw [if_neg q] at v0; omega
      obtain rfl : r = VlK μ m gn 0 := by omega
      exact ⟨rfl, rfl, hL, hV, hq⟩
    · --
      refine v_iconst aX8_layValues_11 ?_
      refine v_istore_n aX8_layValues_12 (by decide) rfl ?_
      have hu : ¬ VlK μ m gn 0 ≤ r := fun q => by
        rw [if_pos q] at v0; omega
      exact lo_X8_layValues hM hn (by omega) (fun μ2 L2 a1 a2 a3 a4 => ih (r + 1) μ2 L2 (by omega) (by omega) (by omega) a1 a2 a3 a4) 25999 0 μ [] (by omega) (by omega) hg hL hV hq
set_option maxHeartbeats 4000000 in
set_option maxRecDepth 100000 in
theorem c_X8_layValues (hM : ModS S m) (hn : 1 ≤ gn ∧ gn ≤ 5) (hg : μ m 13 = gn) (hL : Lyd μ m gn) (hV : VM μ m gn 0 0) : Ct l G cX8_layValues (yX8_layValues, 5, none, 4, 0, 0) [.ref m] S μ (Rw S (fun μ' => Lyd μ' m gn ∧ VM μ' m gn (VlK μ' m gn 0) 0 ∧ ∀ q : Nat, q ≠ m + 15 → μ' q = μ q)) := by
  have vn : 0 ≤ VlK μ m gn 0 := by unfold VlK; omega
  have hok := (hL.1.2.2.2.2.2 0 (by decide) (by have := hL.2.1; omega)).1
  have v11 : VlK μ m gn 0 ≤ 11 := by
    have := vl_11 hn hok.2 (μ (m + 14) 0)
    unfold VlK
    omega
  refine Ct.of (by decide) rfl (by simp [vi, Value.category]) (Nat.le_of_ble_eq_true rfl) ?_
  refine v_iconst aX8_layValues_0 ?_
  refine v_istore_n aX8_layValues_1 (by decide) rfl ?_
  exact lr_X8_layValues hM hn 12 0 μ [] (by omega) (by omega) vn hg hL hV (fun _ _ => rfl)
set_option maxHeartbeats 4000000 in
set_option maxRecDepth 100000 in
theorem li_X8_more {P : Pst} {s w i : Int} (hM : ModS S m) (hf : FolR μ m (Rg t SA)) (hg : GrAt μ m (Rg t SA) t.1) (hok : StOk t B) (hgn : gn = gpn t) (hg5 : gn ≤ 5) (hi : 0 ≤ i ∧ i < gn) (hh : ∀ (r : Int) (L : List Value), GO (Rg t SA) t.1 (i + 1) 0 r → V l G cX8_more (yX8_more, 6, (some FieldType.int), 5, 0, 0) P (0, 0) S μ 57 ([.ref m, vi s, vi w, vi r, vi (i + 1)] ++ L) []) : ∀ (N : Nat) (j r : Int), (0 ≤ j ∧ j ≤ gn) → gn - j < N → GO (Rg t SA) t.1 i j r → V l G cX8_more (yX8_more, 6, (some FieldType.int), 5, 0, 0) P (0, 0) S μ 69 [.ref m, vi s, vi w, vi r, vi i, vi j] [] := by
  intro N
  induction N with
  | zero => intros; omega
  | succ N ih =>
    intro j r h0 h1 hR
    have o1 := hok.1
    have e13 : μ m 13 = gn := hg.1.trans hgn.symm
    refine v_iload aX8_more_69 rfl ?_
    refine v_aload_n aX8_more_71 rfl ?_
    refine v_gi 13 rfl aX8_more_72 fX8_118 hM.p rfl rfl ?_
    refine v_icmp_ge 126 rfl aX8_more_75 (by omega) (by omega) (fun c75 => ?_) (fun c75 => ?_)
    · --
      refine v_iinc aX8_more_126 rfl (by decide) rfl ?_
      refine v_goto 57 rfl aX8_more_129 ?_
      exact hh r [vi j] (GO_next hR (by unfold gpn at hgn; omega))
    · --
      refine v_iload_n aX8_more_78 rfl ?_
      refine v_aload_n aX8_more_79 rfl ?_
      have gi := hg.gr (g := i) (by omega) hi.1 (by omega)
      have gj := hg.gr (g := j) (by omega) h0.1 (by omega)
      have ri := gi.1
      have rj := gj.1
      refine v_getr aX8_more_80 fX8_35 hM.p rfl rfl ?_
      refine v_bipush (by decide) aX8_more_83 ?_
      refine v_aload_n aX8_more_85 rfl ?_
      refine v_getr aX8_more_86 fX8_42 hM.p rfl rfl ?_
      refine v_iload aX8_more_89 rfl ?_
      refine v_iald aX8_more_91 hM.p_group (by omega) (by decide) ?_
      refine v_imul aX8_more_92 ?_
      refine v_aload_n aX8_more_93 rfl ?_
      refine v_getr aX8_more_94 fX8_42 hM.p rfl rfl ?_
      refine v_iload aX8_more_97 rfl ?_
      refine v_iald aX8_more_99 hM.p_group (by omega) (by decide) ?_
      refine v_iadd aX8_more_100 ?_
      refine v_zald aX8_more_101 hM.p_over (by omega) (by decide) ?_
      refine v_top (hf.2 _ _ (by omega) (by omega) (by omega) (by omega)) ?_
      have hgi := GR_i (R := (Rg t SA)) (n := t.1) (a := i) (c := j) ⟨gi.1, gi.2.1, gi.2.2⟩ ⟨gj.1, gj.2.1, gj.2.2⟩
      refine v_if_eq_b 117 rfl aX8_more_102 (fun c102 => ?_) (fun c102 => ?_)
      · --
        refine v_iconst aX8_more_117 ?_
        refine v_ior aX8_more_118 ?_
        refine v_istore_n aX8_more_119 (by decide) rfl ?_
        refine v_iinc aX8_more_120 rfl (by decide) rfl ?_
        refine v_goto 69 rfl aX8_more_123 ?_
        rw [or0 hR.1]
        exact ih (j + 1) r (by omega) (by omega) (GO_no hR (fun q => c102 (hgi.mp q)))
      · --
        refine v_iconst aX8_more_105 ?_
        refine v_iconst aX8_more_106 ?_
        refine v_iload aX8_more_107 rfl ?_
        refine v_imul aX8_more_109 ?_
        refine v_iload aX8_more_110 rfl ?_
        refine v_iadd aX8_more_112 ?_
        refine v_ishl aX8_more_113 ?_
        refine v_goto 118 rfl aX8_more_114 ?_
        refine v_ior aX8_more_118 ?_
        refine v_istore_n aX8_more_119 (by decide) rfl ?_
        refine v_iinc aX8_more_120 rfl (by decide) rfl ?_
        refine v_goto 69 rfl aX8_more_123 ?_
        exact ih (j + 1) _ (by omega) (by omega) (GO_yes' hR (by omega) (by omega) (hgi.mpr c102))
set_option maxHeartbeats 4000000 in
set_option maxRecDepth 100000 in
theorem lo_X8_more {P : Pst} {s w : Int} (hM : ModS S m) (hf : FolR μ m (Rg t SA)) (hg : GrAt μ m (Rg t SA) t.1) (hok : StOk t B) (hgn : gn = gpn t) (hg5 : gn ≤ 5) (hh : ∀ (r : Int) (L : List Value), W25 r → RB r = GR (Rg t SA) t.1 → V l G cX8_more (yX8_more, 6, (some FieldType.int), 5, 0, 0) P (0, 0) S μ 132 ([.ref m, vi s, vi w, vi r] ++ L) []) : ∀ (N : Nat) (i r : Int) (L : List Value), (0 ≤ i ∧ i ≤ gn) → gn - i < N → GO (Rg t SA) t.1 i 0 r → V l G cX8_more (yX8_more, 6, (some FieldType.int), 5, 0, 0) P (0, 0) S μ 57 ([.ref m, vi s, vi w, vi r, vi i] ++ L) [] := by
  intro N
  induction N with
  | zero => intros; omega
  | succ N ih =>
    intro i r L h0 h1 hR
    have o1 := hok.1
    have e13 : μ m 13 = gn := hg.1.trans hgn.symm
    refine v_take 5 rfl ?_
    show V _ _ _ _ _ _ _ _ _ [.ref m, vi s, vi w, vi r, vi i] _
    refine v_iload aX8_more_57 rfl ?_
    refine v_aload_n aX8_more_59 rfl ?_
    refine v_gi 13 rfl aX8_more_60 fX8_118 hM.p rfl rfl ?_
    refine v_icmp_ge 132 rfl aX8_more_63 (by omega) (by omega) (fun c63 => ?_) (fun c63 => ?_)
    · --
      obtain rfl : i = gn := by omega
      rw [hgn] at hR hg5
      have e := GO_end hR hg5
      exact hh r [vi i] e.1 e.2
    · --
      refine v_iconst aX8_more_66 ?_
      refine v_istore aX8_more_67 (by decide) rfl ?_
      exact li_X8_more hM hf hg hok hgn hg5 (by omega) (fun r2 L2 h2 => ih (i + 1) r2 L2 (by omega) (by omega) h2) 6 0 r (by omega) (by omega) hR
set_option maxHeartbeats 4000000 in
set_option maxRecDepth 100000 in
theorem lg_X8_more {P : Pst} {s w r : Int} (hM : ModS S m) (hn : 1 ≤ gn ∧ gn ≤ 5) (e13 : μ m 13 = gn) (hL : Lyd μ m gn) (hV : VM μ m gn (VlK μ m gn 0) 0) (hgr : ∀ i : Int, 0 ≤ i → i < gn → 0 ≤ μ (m + 10) i ∧ μ (m + 10) i < 6) (hh : ∀ f : Int, FstQ gn (RB (μ (m + 13) 0)) (μ (m + 14) 0) f → P (some (vi (if f = -1 then -6 else μ (m + 10) f))) S μ) : ∀ (N : Nat) (i : Int) (L : List Value), (0 ≤ i ∧ i ≤ gn) → gn - i < N → (0 < VlK μ m gn 0 → ∀ g' : Int, 0 ≤ g' → g' < i → g' ≠ μ (m + 14) 0 → sgv gn (RB (μ (m + 13) 0)) (μ (m + 14) 0) g' ≠ vl gn (RB (μ (m + 13) 0)) (μ (m + 14) 0)) → V l G cX8_more (yX8_more, 6, (some FieldType.int), 5, 0, 0) P (0, 0) S μ 173 ([.ref m, vi s, vi w, vi r, vi (-6), vi i] ++ L) [] := by
  intro N
  induction N with
  | zero => intros; omega
  | succ N ih =>
    intro i L h0 h1 hno
    have nr := hL.1.1
    have n1 := hL.2.1
    have hok := (hL.1.2.2.2.2.2 0 (by decide) (by omega)).1
    have v0 := hV 0 (by decide) (by omega)
    rw [if_neg (show ¬ (0 : Int) < 0 by decide), if_pos (Int.le_refl _)] at v0
    have vn : 0 ≤ VlK μ m gn 0 := by unfold VlK; omega
    have vd : VlK μ m gn 0 = (vl gn (RB (μ (m + 13) 0)) (μ (m + 14) 0) : Int) := rfl
    have v11 := vl_11 hn hok.2 (μ (m + 14) 0)
    have hz : vl gn (RB (μ (m + 13) 0)) (μ (m + 14) 0) = 0 → P (some (vi (-6))) S μ := fun q => hh (-1) (Or.inl ⟨q, rfl⟩)
    refine v_take 6 rfl ?_
    show V _ _ _ _ _ _ _ _ _ [.ref m, vi s, vi w, vi r, vi (-6), vi i] _
    refine v_iload aX8_more_173 rfl ?_
    refine v_aload_n aX8_more_175 rfl ?_
    refine v_gi 13 rfl aX8_more_176 fX8_118 hM.p rfl rfl ?_
    refine v_icmp_ge 234 rfl aX8_more_179 (by omega) (by omega) (fun c179 => ?_) (fun c179 => ?_)
    · --
      refine v_iload aX8_more_234 rfl ?_
      refine v_ireturn aX8_more_236 rfl ⟨Nat.le_refl _, Nat.le_refl _⟩ ?_
      by_cases q : vl gn (RB (μ (m + 13) 0)) (μ (m + 14) 0) = 0
      · exact hz q
      · have hnw : ¬ WhR gn (RB (μ (m + 13) 0)) := fun z => q ((vl_0 hn hok.2 (μ (m + 14) 0)).mpr z)
        obtain ⟨g', gr, gne, ge⟩ := vl_ex (y := μ (m + 14) 0) hn hok.2 hnw
        exact absurd ge.symm (hno (by omega) g' gr.1 (by omega) gne)
    · --
      refine v_aload_n aX8_more_182 rfl ?_
      refine v_getr aX8_more_183 fX8_57 hM.p rfl rfl ?_
      refine v_iconst aX8_more_186 ?_
      refine v_iald aX8_more_187 hM.p_value (by omega) (by decide) ?_
      rw [v0]
      refine v_if_le 234 rfl aX8_more_188 (by omega) (fun c188 => ?_) (fun c188 => ?_)
      · --
        refine v_iload aX8_more_234 rfl ?_
        refine v_ireturn aX8_more_236 rfl ⟨Nat.le_refl _, Nat.le_refl _⟩ ?_
        exact hz (by omega)
      · --
        refine v_iload aX8_more_191 rfl ?_
        refine v_if_ge 234 rfl aX8_more_193 (by omega) (fun c193 => ?_) (fun c193 => ?_)
        · exact absurd c193 (by decide)
        · --
          have hnw : ¬ WhR gn (RB (μ (m + 13) 0)) := fun q => by
            have := (vl_0 hn hok.2 (μ (m + 14) 0)).mpr q
            omega
          have hD := hL.2.2 0 (by decide) (by omega) hnw
          refine v_aload_n aX8_more_196 rfl ?_
          refine v_iconst aX8_more_197 ?_
          refine v_iload aX8_more_198 rfl ?_
          refine v_aload_n aX8_more_200 rfl ?_
          refine v_getr aX8_more_201 fX8_57 hM.p rfl rfl ?_
          refine v_iconst aX8_more_204 ?_
          refine v_iald aX8_more_205 hM.p_value (by omega) (by decide) ?_
          rw [v0]
          refine v_iconst aX8_more_206 ?_
          refine v_isub aX8_more_207 ?_
          refine v_cVi (c_X8_does hM e13 hn hL.1 ⟨Int.le_refl _, by omega⟩ (by omega) hD (hV.r hn hL.1) (by omega)) aX8_more_208 mX8_does vX8_does lX8_158 hM.p rfl rfl rfl rfl rfl (Nat.le_of_ble_eq_true rfl) ⟨Nat.le_of_ble_eq_true rfl, Nat.le_of_ble_eq_true rfl⟩ (Nat.le_of_ble_eq_true rfl) ?_
          have hVm : VM μ m gn (VlK μ m gn 0 - 1) (μ m 17) := fun j j0 j1 => by
            have := hV j j0 j1
            rw [if_neg (show ¬ j < 0 by omega)] at this
            rw [if_pos j1, show VlK μ m gn 0 - 1 + 1 = VlK μ m gn 0 by omega]
            exact this
          have hdo := DoP_sgv (g := i) hn hL.1 ⟨Int.le_refl _, by omega⟩ (by omega) hD hVm (by omega)
          have gri := hgr i h0.1 (by omega)
          refine v_if_eq_b 224 rfl aX8_more_211 (fun c211 => ?_) (fun c211 => ?_)
          · --
            refine v_bipush (by decide) aX8_more_224 ?_
            refine v_istore aX8_more_226 (by decide) rfl ?_
            refine v_iinc aX8_more_228 rfl (by decide) rfl ?_
            refine v_goto 173 rfl aX8_more_231 ?_
            refine ih (i + 1) [] (by omega) (by omega) (fun hp g' g0 g1 g2 q => ?_)
            by_cases e : g' = i
            · subst e
              exact c211 (hdo.mpr ⟨g2, by omega⟩)
            · exact hno hp g' g0 (by omega) g2 q
          · --
            refine v_aload_n aX8_more_214 rfl ?_
            refine v_getr aX8_more_215 fX8_42 hM.p rfl rfl ?_
            refine v_iload aX8_more_218 rfl ?_
            refine v_iald aX8_more_220 hM.p_group (by omega) (by decide) ?_
            refine v_goto 226 rfl aX8_more_221 ?_
            refine v_istore aX8_more_226 (by decide) rfl ?_
            refine v_iinc aX8_more_228 rfl (by decide) rfl ?_
            refine v_goto 173 rfl aX8_more_231 ?_
            have hs := hdo.mp c211
            have hle := vl_sgv (R := RB (μ (m + 13) 0)) (y := μ (m + 14) 0) (g := i) hn hok.2 (by omega) hs.1
            have hf : P (some (vi (μ (m + 10) i))) S μ := by
              have := hh i (Or.inr ⟨by omega, by omega, hs.1, by omega, hno (by omega)⟩)
              rw [if_neg (show ¬ i = -1 by omega)] at this
              exact this
            refine v_iload aX8_more_173 rfl ?_
            refine v_aload_n aX8_more_175 rfl ?_
            refine v_gi 13 rfl aX8_more_176 fX8_118 hM.p rfl rfl ?_
            refine v_icmp_ge 234 rfl aX8_more_179 (by omega) (by omega) (fun c179 => ?_) (fun c179 => ?_)
            · --
              refine v_iload aX8_more_234 rfl ?_
              refine v_ireturn aX8_more_236 rfl ⟨Nat.le_refl _, Nat.le_refl _⟩ ?_
              exact hf
            · --
              refine v_aload_n aX8_more_182 rfl ?_
              refine v_getr aX8_more_183 fX8_57 hM.p rfl rfl ?_
              refine v_iconst aX8_more_186 ?_
              refine v_iald aX8_more_187 hM.p_value (by omega) (by decide) ?_
              rw [v0]
              refine v_if_le 234 rfl aX8_more_188 (by omega) (fun c188 => ?_) (fun c188 => ?_)
              · --
                refine v_iload aX8_more_234 rfl ?_
                refine v_ireturn aX8_more_236 rfl ⟨Nat.le_refl _, Nat.le_refl _⟩ ?_
                exact hf
              · --
                refine v_iload aX8_more_191 rfl ?_
                refine v_if_ge 234 rfl aX8_more_193 (by omega) (fun c193 => ?_) (fun c193 => ?_)
                · --
                  refine v_iload aX8_more_234 rfl ?_
                  refine v_ireturn aX8_more_236 rfl ⟨Nat.le_refl _, Nat.le_refl _⟩ ?_
                  exact hf
                · omega
set_option maxHeartbeats 4000000 in
set_option maxRecDepth 100000 in
theorem c_X8_more {s w : Int} (hM : ModS S m) (h : MoAt μ m t g n) (hok : StOk t B) (hs : (-2147483648 ≤ s ∧ s < 2147483648)) (hw : (-2147483648 ≤ w ∧ w < 2147483648)) : Ct l G cX8_more (yX8_more, 6, (some FieldType.int), 5, 0, 0) [.ref m, vi s, vi w] S μ (Re S (fun z μ' => MoreQ t s w z ∧ MoAt μ' m t g n ∧ Out μ μ' m 20)) := by
  obtain ⟨o1, o2, o3, o4, o5⟩ := id hok
  have f0 : μ m 0 = t.1 := h.1.1
  have gr := gpn_r hok
  refine Ct.of (by decide) rfl (by simp [vi, Value.category]) (Nat.le_of_ble_eq_true rfl) ?_
  refine v_iload_n aX8_more_0 rfl ?_
  refine v_iconst aX8_more_1 ?_
  refine v_icmp_eq 15 rfl aX8_more_2 (by omega) (by omega) (fun c2 => ?_) (fun c2 => ?_)
  · --
    refine v_iload_n aX8_more_15 rfl ?_
    refine v_iconst aX8_more_16 ?_
    refine v_iconst aX8_more_17 ?_
    refine v_cSi (c_X8_in hw (by decide) (by decide)) aX8_more_18 mX8_in sX8_in lX8_79 rfl rfl (Nat.le_of_ble_eq_true rfl) ⟨Nat.le_of_ble_eq_true rfl, Nat.le_of_ble_eq_true rfl⟩ (Nat.le_of_ble_eq_true rfl) ?_
    refine v_if_ne_b 27 rfl aX8_more_21 (fun c21 => ?_) (fun c21 => ?_)
    · --
      refine v_aload_n aX8_more_27 rfl ?_
      refine v_cVe (c_X8_followAll hM h.1 hok) aX8_more_28 mX8_followAll vX8_followAll lX8_111 hM.p rfl rfl rfl rfl rfl (Nat.le_of_ble_eq_true rfl) ⟨Nat.le_of_ble_eq_true rfl, Nat.le_of_ble_eq_true rfl⟩ (Nat.le_of_ble_eq_true rfl) (fun z μ' hz => ?_)
      obtain ⟨rfl, r1, r2⟩ := hz
      have r3 : MoAt μ' m t g n := h.kp (fun i _ => by rw [r2 m (by omega) (by omega)]) (fun q q0 q1 => r2 q (by omega) (by omega))
      have r4 : Out μ μ' m 20 := fun q hq => r2 q (by omega) (by omega)
      have f1 : μ' m 0 = t.1 := r3.1.1
      refine v_if_ne_b 37 rfl aX8_more_31 (fun c31 => ?_) (fun c31 => ?_)
      · --
        have r5 := r1.toR c31
        refine v_aload_n aX8_more_37 rfl ?_
        refine v_cVw (c_X8_layGroups hM r5 RT_Rg (by omega)) aX8_more_38 mX8_layGroups vX8_layGroups lX8_121 hM.p rfl rfl rfl rfl rfl (Nat.le_of_ble_eq_true rfl) ⟨Nat.le_of_ble_eq_true rfl, Nat.le_of_ble_eq_true rfl⟩ (Nat.le_of_ble_eq_true rfl) (fun μ2 hg => ?_)
        obtain ⟨g1, g2, g3⟩ := hg
        rw [f1] at g1
        have g4 : MoAt μ2 m t g n := r3.kp (fun i hi => g2 i (by omega)) (fun q q0 q1 => g3 q (by omega) (by omega) (by omega))
        have g5 : Out μ μ2 m 20 := fun q hq => (g3 q (by omega) (by omega) (by omega)).trans (r4 q hq)
        have g6 : FolR μ2 m (Rg t SA) := by unfold FolR; rw [g3 _ (by omega) (by omega) (by omega), g3 _ (by omega) (by omega) (by omega)]; exact r5
        have g13 : μ2 m 13 = gpn t := g1.1
        refine v_aload_n aX8_more_41 rfl ?_
        refine v_gi 13 rfl aX8_more_42 fX8_118 hM.p rfl rfl ?_
        rw [g13]
        refine v_iconst aX8_more_45 ?_
        refine v_icmp_le 52 rfl aX8_more_46 (by omega) (by omega) (fun c46 => ?_) (fun c46 => ?_)
        · --
          refine v_iconst aX8_more_52 ?_
          refine v_istore_n aX8_more_53 (by decide) rfl ?_
          refine v_iconst aX8_more_54 ?_
          refine v_istore aX8_more_55 (by decide) rfl ?_
          refine lo_X8_more (gn := gpn t) hM g6 g1 hok rfl c46 (fun bts L hb1 hb2 => ?_) 6 0 0 [] (by omega) (by omega) GO_0
          have hn5 : 1 ≤ gpn t ∧ gpn t ≤ 5 := ⟨gr.1, c46⟩
          have hsp : SPO (gpn t) (GR (Rg t SA) t.1) := GR_spo RT_Rg
          have how : OW (gpn t) bts := ⟨hb1, by rw [hb2]; exact hsp⟩
          refine v_take 4 rfl ?_
          show V _ _ _ _ _ _ _ _ _ [.ref m, vi s, vi w, vi bts] _
          refine v_aload_n aX8_more_132 rfl ?_
          refine v_iload_n aX8_more_133 rfl ?_
          refine v_iload_n aX8_more_134 rfl ?_
          refine v_if_ge 142 rfl aX8_more_135 (by omega) (fun c135 => ?_) (fun c135 => ?_)
          · --
            refine v_aload_n aX8_more_142 rfl ?_
            refine v_getr aX8_more_143 fX8_45 hM.p rfl rfl ?_
            refine v_iload_n aX8_more_146 rfl ?_
            refine v_iald aX8_more_147 hM.p_groupOf (by omega) (by decide) ?_
            obtain ⟨o, oo1, oo2, oo3, y5⟩ := g1.2.2 s (by omega) (by omega)
            have yg : GOf (Rg t SA) t.1 s (μ2 (m + 11) s) := ⟨o, oo1.1, oo1.2, oo2, oo3, y5⟩
            have yr := yg.r RT_Rg (by omega)
            refine v_cVw (c_X8_layStands hM (g1.1) hn5 how (Or.inl yr)) aX8_more_148 mX8_layStands vX8_layStands lX8_161 hM.p rfl rfl rfl rfl rfl (Nat.le_of_ble_eq_true rfl) ⟨Nat.le_of_ble_eq_true rfl, Nat.le_of_ble_eq_true rfl⟩ (Nat.le_of_ble_eq_true rfl) (fun μ3 h3 => ?_)
            have k13g : μ3 m 13 = gpn t := (h3.2.2.2.2.2 13 (by decide)).trans g1.1
            refine v_aload_n aX8_more_151 rfl ?_
            refine v_cVw (c_X8_layValues hM hn5 k13g (LyS.lyd hn5 h3).1 (LyS.lyd hn5 h3).2) aX8_more_152 mX8_layValues vX8_layValues lX8_165 hM.p rfl rfl rfl rfl rfl (Nat.le_of_ble_eq_true rfl) ⟨Nat.le_of_ble_eq_true rfl, Nat.le_of_ble_eq_true rfl⟩ (Nat.le_of_ble_eq_true rfl) (fun μ4 ⟨l1, l2, l3⟩ => ?_)
            have k0 : μ4 m 13 = gpn t := by rw [l3 m (by omega)]; exact k13g
            have k13 : μ4 (m + 13) 0 = bts := by rw [l3 (m + 13) (by omega)]; exact h3.2.2.1.1
            have k14 : μ4 (m + 14) 0 = μ2 (m + 11) s := by rw [l3 (m + 14) (by omega)]; exact h3.2.2.1.2
            have k10 : μ4 (m + 10) = μ2 (m + 10) := by rw [l3 (m + 10) (by omega)]; exact h3.2.2.2.2.1 _ (by omega) (by omega) (by omega) (by omega) (by omega)
            have m4 : MoAt μ4 m t g n := g4.kp (fun i hi => by rw [l3 m (by omega)]; exact h3.2.2.2.2.2 i (by omega)) (fun q q0 q1 => (l3 q (by omega)).trans (h3.2.2.2.2.1 q (by omega) (by omega) (by omega) (by omega) (by omega)))
            have o4 : Out μ μ4 m 20 := fun q hq => ((l3 q (by omega)).trans (h3.2.2.2.2.1 q (by omega) (by omega) (by omega) (by omega) (by omega))).trans (g5 q hq)
            refine v_iload_n aX8_more_155 rfl ?_
            refine v_if_ne 166 rfl aX8_more_156 (by omega) (fun c156 => ?_) (fun c156 => ?_)
            · --
              refine v_bipush (by decide) aX8_more_166 ?_
              refine v_istore aX8_more_168 (by decide) rfl ?_
              refine v_iconst aX8_more_170 ?_
              refine v_istore aX8_more_171 (by decide) rfl ?_
              refine lg_X8_more hM hn5 k0 l1 l2 (fun i i0 i1 => ?_) (fun f hf => ?_) 6 0 [] (by omega) (by omega) (fun _ g' g0 g1 => by omega)
              · rw [k10]
                have := (g1.gr (g := i) (by omega) i0 (by rw [g1.1]; exact i1)).1
                omega
              · rw [k13, k14, hb2] at hf
                have hf2 : FstQ (gpn t) (GR (Rg t SA) t.1) (μ2 (m + 11) s) f := hf
                have fr : f = -1 ∨ (0 ≤ f ∧ f < gpn t) := by
                  rcases hf with q | q
                  · exact Or.inl q.2
                  · exact Or.inr q.2.1
                refine ⟨_, rfl, rfl, MoreQ_6 ⟨by omega, by omega, c31, by omega⟩ ⟨_, Or.inr ⟨by omega, yg⟩, fun q => absurd q (by omega), fun _ => ⟨f, hf2, ?_⟩⟩, m4, o4⟩
                by_cases q : f = -1
                · exact Or.inl ⟨q, if_pos q⟩
                · rw [if_neg q, k10]
                  have := g1.gr (g := f) (by omega) (by omega) (by rw [g1.1]; unfold gpn at fr; omega)
                  exact Or.inr ⟨q, this.1, this.2.1, this.2.2⟩
            · --
              refine v_aload_n aX8_more_159 rfl ?_
              refine v_getr aX8_more_160 fX8_57 hM.p rfl rfl ?_
              refine v_iconst aX8_more_163 ?_
              refine v_iald aX8_more_164 hM.p_value (by omega) (by decide) ?_
              refine v_ireturn aX8_more_165 rfl ⟨Nat.le_refl _, Nat.le_refl _⟩ ?_
              have v0 := l2 0 (by decide) (by have := l1.2.1; omega)
              rw [if_neg (show ¬ (0 : Int) < 0 by decide), if_pos (Int.le_refl _)] at v0
              rw [v0]
              have e8 : VlK μ4 m (gpn t) 0 = (vl (gpn t) (GR (Rg t SA) t.1) (μ2 (m + 11) s) : Int) := by
                unfold VlK
                rw [k13, k14, hb2]
              exact ⟨_, rfl, rfl, MoreQ_6 ⟨by omega, by omega, c31, by omega⟩ ⟨_, Or.inr ⟨by omega, yg⟩, fun _ => e8, fun q => absurd q (by omega)⟩, m4, o4⟩
          · --
            refine v_iconst aX8_more_138 ?_
            refine v_goto 148 rfl aX8_more_139 ?_
            refine v_cVw (c_X8_layStands hM (g1.1) hn5 how (Or.inr rfl)) aX8_more_148 mX8_layStands vX8_layStands lX8_161 hM.p rfl rfl rfl rfl rfl (Nat.le_of_ble_eq_true rfl) ⟨Nat.le_of_ble_eq_true rfl, Nat.le_of_ble_eq_true rfl⟩ (Nat.le_of_ble_eq_true rfl) (fun μ3 h3 => ?_)
            have k13g : μ3 m 13 = gpn t := (h3.2.2.2.2.2 13 (by decide)).trans g1.1
            refine v_aload_n aX8_more_151 rfl ?_
            refine v_cVw (c_X8_layValues hM hn5 k13g (LyS.lyd hn5 h3).1 (LyS.lyd hn5 h3).2) aX8_more_152 mX8_layValues vX8_layValues lX8_165 hM.p rfl rfl rfl rfl rfl (Nat.le_of_ble_eq_true rfl) ⟨Nat.le_of_ble_eq_true rfl, Nat.le_of_ble_eq_true rfl⟩ (Nat.le_of_ble_eq_true rfl) (fun μ4 ⟨l1, l2, l3⟩ => ?_)
            have k0 : μ4 m 13 = gpn t := by rw [l3 m (by omega)]; exact k13g
            have k13 : μ4 (m + 13) 0 = bts := by rw [l3 (m + 13) (by omega)]; exact h3.2.2.1.1
            have k14 : μ4 (m + 14) 0 = 5 := by rw [l3 (m + 14) (by omega)]; exact h3.2.2.1.2
            have k10 : μ4 (m + 10) = μ2 (m + 10) := by rw [l3 (m + 10) (by omega)]; exact h3.2.2.2.2.1 _ (by omega) (by omega) (by omega) (by omega) (by omega)
            have m4 : MoAt μ4 m t g n := g4.kp (fun i hi => by rw [l3 m (by omega)]; exact h3.2.2.2.2.2 i (by omega)) (fun q q0 q1 => (l3 q (by omega)).trans (h3.2.2.2.2.1 q (by omega) (by omega) (by omega) (by omega) (by omega)))
            have o4 : Out μ μ4 m 20 := fun q hq => ((l3 q (by omega)).trans (h3.2.2.2.2.1 q (by omega) (by omega) (by omega) (by omega) (by omega))).trans (g5 q hq)
            refine v_iload_n aX8_more_155 rfl ?_
            refine v_if_ne 166 rfl aX8_more_156 (by omega) (fun c156 => ?_) (fun c156 => ?_)
            · --
              refine v_bipush (by decide) aX8_more_166 ?_
              refine v_istore aX8_more_168 (by decide) rfl ?_
              refine v_iconst aX8_more_170 ?_
              refine v_istore aX8_more_171 (by decide) rfl ?_
              refine lg_X8_more hM hn5 k0 l1 l2 (fun i i0 i1 => ?_) (fun f hf => ?_) 6 0 [] (by omega) (by omega) (fun _ g' g0 g1 => by omega)
              · rw [k10]
                have := (g1.gr (g := i) (by omega) i0 (by rw [g1.1]; exact i1)).1
                omega
              · rw [k13, k14, hb2] at hf
                have hf2 : FstQ (gpn t) (GR (Rg t SA) t.1) (-1) f := FstQ_out hn5 hsp (by omega) (by omega) hf
                have fr : f = -1 ∨ (0 ≤ f ∧ f < gpn t) := by
                  rcases hf with q | q
                  · exact Or.inl q.2
                  · exact Or.inr q.2.1
                refine ⟨_, rfl, rfl, MoreQ_6 ⟨by omega, by omega, c31, by omega⟩ ⟨_, Or.inl ⟨by omega, rfl⟩, fun q => absurd q (by omega), fun _ => ⟨f, hf2, ?_⟩⟩, m4, o4⟩
                by_cases q : f = -1
                · exact Or.inl ⟨q, if_pos q⟩
                · rw [if_neg q, k10]
                  have := g1.gr (g := f) (by omega) (by omega) (by rw [g1.1]; unfold gpn at fr; omega)
                  exact Or.inr ⟨q, this.1, this.2.1, this.2.2⟩
            · --
              refine v_aload_n aX8_more_159 rfl ?_
              refine v_getr aX8_more_160 fX8_57 hM.p rfl rfl ?_
              refine v_iconst aX8_more_163 ?_
              refine v_iald aX8_more_164 hM.p_value (by omega) (by decide) ?_
              refine v_ireturn aX8_more_165 rfl ⟨Nat.le_refl _, Nat.le_refl _⟩ ?_
              have v0 := l2 0 (by decide) (by have := l1.2.1; omega)
              rw [if_neg (show ¬ (0 : Int) < 0 by decide), if_pos (Int.le_refl _)] at v0
              rw [v0]
              have e8 : VlK μ4 m (gpn t) 0 = (vl (gpn t) (GR (Rg t SA) t.1) (-1) : Int) := by
                unfold VlK
                rw [k13, k14, hb2]
                exact congrArg Int.ofNat (vl_out hn5 hsp (by omega) (by omega))
              exact ⟨_, rfl, rfl, MoreQ_6 ⟨by omega, by omega, c31, by omega⟩ ⟨_, Or.inl ⟨by omega, rfl⟩, fun _ => e8, fun q => absurd q (by omega)⟩, m4, o4⟩
        · --
          refine v_bipush (by decide) aX8_more_49 ?_
          refine v_ireturn aX8_more_51 rfl ⟨Nat.le_refl _, Nat.le_refl _⟩ ?_
          exact ⟨_, rfl, rfl, MoreQ_5 (by omega) (by omega) c31 c46, g4, g5⟩
      · --
        refine v_bipush (by decide) aX8_more_34 ?_
        refine v_ireturn aX8_more_36 rfl ⟨Nat.le_refl _, Nat.le_refl _⟩ ?_
        exact ⟨_, rfl, rfl, MoreQ_3 (by omega) (by omega) c31, r3, r4⟩
    · --
      refine v_bipush (by decide) aX8_more_24 ?_
      refine v_ireturn aX8_more_26 rfl ⟨Nat.le_refl _, Nat.le_refl _⟩ ?_
      exact ⟨_, rfl, rfl, MoreQ_2 (by omega) (by omega), h, Out.rf⟩
  · --
    refine v_aload_n aX8_more_5 rfl ?_
    refine v_iload_n aX8_more_6 rfl ?_
    refine v_cVi (c_X8_isSack hM hs (by omega)) aX8_more_7 mX8_isSack vX8_isSack lX8_89 hM.p rfl rfl rfl rfl rfl (Nat.le_of_ble_eq_true rfl) ⟨Nat.le_of_ble_eq_true rfl, Nat.le_of_ble_eq_true rfl⟩ (Nat.le_of_ble_eq_true rfl) ?_
    refine v_if_ne_b 15 rfl aX8_more_10 (fun c10 => ?_) (fun c10 => ?_)
    · --
      refine v_iload_n aX8_more_15 rfl ?_
      refine v_iconst aX8_more_16 ?_
      refine v_iconst aX8_more_17 ?_
      refine v_cSi (c_X8_in hw (by decide) (by decide)) aX8_more_18 mX8_in sX8_in lX8_79 rfl rfl (Nat.le_of_ble_eq_true rfl) ⟨Nat.le_of_ble_eq_true rfl, Nat.le_of_ble_eq_true rfl⟩ (Nat.le_of_ble_eq_true rfl) ?_
      refine v_if_ne_b 27 rfl aX8_more_21 (fun c21 => ?_) (fun c21 => ?_)
      · --
        refine v_aload_n aX8_more_27 rfl ?_
        refine v_cVe (c_X8_followAll hM h.1 hok) aX8_more_28 mX8_followAll vX8_followAll lX8_111 hM.p rfl rfl rfl rfl rfl (Nat.le_of_ble_eq_true rfl) ⟨Nat.le_of_ble_eq_true rfl, Nat.le_of_ble_eq_true rfl⟩ (Nat.le_of_ble_eq_true rfl) (fun z μ' hz => ?_)
        obtain ⟨rfl, r1, r2⟩ := hz
        have r3 : MoAt μ' m t g n := h.kp (fun i _ => by rw [r2 m (by omega) (by omega)]) (fun q q0 q1 => r2 q (by omega) (by omega))
        have r4 : Out μ μ' m 20 := fun q hq => r2 q (by omega) (by omega)
        have f1 : μ' m 0 = t.1 := r3.1.1
        refine v_if_ne_b 37 rfl aX8_more_31 (fun c31 => ?_) (fun c31 => ?_)
        · --
          have r5 := r1.toR c31
          refine v_aload_n aX8_more_37 rfl ?_
          refine v_cVw (c_X8_layGroups hM r5 RT_Rg (by omega)) aX8_more_38 mX8_layGroups vX8_layGroups lX8_121 hM.p rfl rfl rfl rfl rfl (Nat.le_of_ble_eq_true rfl) ⟨Nat.le_of_ble_eq_true rfl, Nat.le_of_ble_eq_true rfl⟩ (Nat.le_of_ble_eq_true rfl) (fun μ2 hg => ?_)
          obtain ⟨g1, g2, g3⟩ := hg
          rw [f1] at g1
          have g4 : MoAt μ2 m t g n := r3.kp (fun i hi => g2 i (by omega)) (fun q q0 q1 => g3 q (by omega) (by omega) (by omega))
          have g5 : Out μ μ2 m 20 := fun q hq => (g3 q (by omega) (by omega) (by omega)).trans (r4 q hq)
          have g6 : FolR μ2 m (Rg t SA) := by unfold FolR; rw [g3 _ (by omega) (by omega) (by omega), g3 _ (by omega) (by omega) (by omega)]; exact r5
          have g13 : μ2 m 13 = gpn t := g1.1
          refine v_aload_n aX8_more_41 rfl ?_
          refine v_gi 13 rfl aX8_more_42 fX8_118 hM.p rfl rfl ?_
          rw [g13]
          refine v_iconst aX8_more_45 ?_
          refine v_icmp_le 52 rfl aX8_more_46 (by omega) (by omega) (fun c46 => ?_) (fun c46 => ?_)
          · --
            refine v_iconst aX8_more_52 ?_
            refine v_istore_n aX8_more_53 (by decide) rfl ?_
            refine v_iconst aX8_more_54 ?_
            refine v_istore aX8_more_55 (by decide) rfl ?_
            refine lo_X8_more (gn := gpn t) hM g6 g1 hok rfl c46 (fun bts L hb1 hb2 => ?_) 6 0 0 [] (by omega) (by omega) GO_0
            have hn5 : 1 ≤ gpn t ∧ gpn t ≤ 5 := ⟨gr.1, c46⟩
            have hsp : SPO (gpn t) (GR (Rg t SA) t.1) := GR_spo RT_Rg
            have how : OW (gpn t) bts := ⟨hb1, by rw [hb2]; exact hsp⟩
            refine v_take 4 rfl ?_
            show V _ _ _ _ _ _ _ _ _ [.ref m, vi s, vi w, vi bts] _
            refine v_aload_n aX8_more_132 rfl ?_
            refine v_iload_n aX8_more_133 rfl ?_
            refine v_iload_n aX8_more_134 rfl ?_
            refine v_if_ge 142 rfl aX8_more_135 (by omega) (fun c135 => ?_) (fun c135 => ?_)
            · --
              refine v_aload_n aX8_more_142 rfl ?_
              refine v_getr aX8_more_143 fX8_45 hM.p rfl rfl ?_
              refine v_iload_n aX8_more_146 rfl ?_
              refine v_iald aX8_more_147 hM.p_groupOf (by omega) (by decide) ?_
              obtain ⟨o, oo1, oo2, oo3, y5⟩ := g1.2.2 s (by omega) (by omega)
              have yg : GOf (Rg t SA) t.1 s (μ2 (m + 11) s) := ⟨o, oo1.1, oo1.2, oo2, oo3, y5⟩
              have yr := yg.r RT_Rg (by omega)
              refine v_cVw (c_X8_layStands hM (g1.1) hn5 how (Or.inl yr)) aX8_more_148 mX8_layStands vX8_layStands lX8_161 hM.p rfl rfl rfl rfl rfl (Nat.le_of_ble_eq_true rfl) ⟨Nat.le_of_ble_eq_true rfl, Nat.le_of_ble_eq_true rfl⟩ (Nat.le_of_ble_eq_true rfl) (fun μ3 h3 => ?_)
              have k13g : μ3 m 13 = gpn t := (h3.2.2.2.2.2 13 (by decide)).trans g1.1
              refine v_aload_n aX8_more_151 rfl ?_
              refine v_cVw (c_X8_layValues hM hn5 k13g (LyS.lyd hn5 h3).1 (LyS.lyd hn5 h3).2) aX8_more_152 mX8_layValues vX8_layValues lX8_165 hM.p rfl rfl rfl rfl rfl (Nat.le_of_ble_eq_true rfl) ⟨Nat.le_of_ble_eq_true rfl, Nat.le_of_ble_eq_true rfl⟩ (Nat.le_of_ble_eq_true rfl) (fun μ4 ⟨l1, l2, l3⟩ => ?_)
              have k0 : μ4 m 13 = gpn t := by rw [l3 m (by omega)]; exact k13g
              have k13 : μ4 (m + 13) 0 = bts := by rw [l3 (m + 13) (by omega)]; exact h3.2.2.1.1
              have k14 : μ4 (m + 14) 0 = μ2 (m + 11) s := by rw [l3 (m + 14) (by omega)]; exact h3.2.2.1.2
              have k10 : μ4 (m + 10) = μ2 (m + 10) := by rw [l3 (m + 10) (by omega)]; exact h3.2.2.2.2.1 _ (by omega) (by omega) (by omega) (by omega) (by omega)
              have m4 : MoAt μ4 m t g n := g4.kp (fun i hi => by rw [l3 m (by omega)]; exact h3.2.2.2.2.2 i (by omega)) (fun q q0 q1 => (l3 q (by omega)).trans (h3.2.2.2.2.1 q (by omega) (by omega) (by omega) (by omega) (by omega)))
              have o4 : Out μ μ4 m 20 := fun q hq => ((l3 q (by omega)).trans (h3.2.2.2.2.1 q (by omega) (by omega) (by omega) (by omega) (by omega))).trans (g5 q hq)
              refine v_iload_n aX8_more_155 rfl ?_
              refine v_if_ne 166 rfl aX8_more_156 (by omega) (fun c156 => ?_) (fun c156 => ?_)
              · --
                refine v_bipush (by decide) aX8_more_166 ?_
                refine v_istore aX8_more_168 (by decide) rfl ?_
                refine v_iconst aX8_more_170 ?_
                refine v_istore aX8_more_171 (by decide) rfl ?_
                refine lg_X8_more hM hn5 k0 l1 l2 (fun i i0 i1 => ?_) (fun f hf => ?_) 6 0 [] (by omega) (by omega) (fun _ g' g0 g1 => by omega)
                · rw [k10]
                  have := (g1.gr (g := i) (by omega) i0 (by rw [g1.1]; exact i1)).1
                  omega
                · rw [k13, k14, hb2] at hf
                  have hf2 : FstQ (gpn t) (GR (Rg t SA) t.1) (μ2 (m + 11) s) f := hf
                  have fr : f = -1 ∨ (0 ≤ f ∧ f < gpn t) := by
                    rcases hf with q | q
                    · exact Or.inl q.2
                    · exact Or.inr q.2.1
                  refine ⟨_, rfl, rfl, MoreQ_6 ⟨by omega, by omega, c31, by omega⟩ ⟨_, Or.inr ⟨by omega, yg⟩, fun q => absurd q (by omega), fun _ => ⟨f, hf2, ?_⟩⟩, m4, o4⟩
                  by_cases q : f = -1
                  · exact Or.inl ⟨q, if_pos q⟩
                  · rw [if_neg q, k10]
                    have := g1.gr (g := f) (by omega) (by omega) (by rw [g1.1]; unfold gpn at fr; omega)
                    exact Or.inr ⟨q, this.1, this.2.1, this.2.2⟩
              · --
                refine v_aload_n aX8_more_159 rfl ?_
                refine v_getr aX8_more_160 fX8_57 hM.p rfl rfl ?_
                refine v_iconst aX8_more_163 ?_
                refine v_iald aX8_more_164 hM.p_value (by omega) (by decide) ?_
                refine v_ireturn aX8_more_165 rfl ⟨Nat.le_refl _, Nat.le_refl _⟩ ?_
                have v0 := l2 0 (by decide) (by have := l1.2.1; omega)
                rw [if_neg (show ¬ (0 : Int) < 0 by decide), if_pos (Int.le_refl _)] at v0
                rw [v0]
                have e8 : VlK μ4 m (gpn t) 0 = (vl (gpn t) (GR (Rg t SA) t.1) (μ2 (m + 11) s) : Int) := by
                  unfold VlK
                  rw [k13, k14, hb2]
                exact ⟨_, rfl, rfl, MoreQ_6 ⟨by omega, by omega, c31, by omega⟩ ⟨_, Or.inr ⟨by omega, yg⟩, fun _ => e8, fun q => absurd q (by omega)⟩, m4, o4⟩
            · --
              refine v_iconst aX8_more_138 ?_
              refine v_goto 148 rfl aX8_more_139 ?_
              refine v_cVw (c_X8_layStands hM (g1.1) hn5 how (Or.inr rfl)) aX8_more_148 mX8_layStands vX8_layStands lX8_161 hM.p rfl rfl rfl rfl rfl (Nat.le_of_ble_eq_true rfl) ⟨Nat.le_of_ble_eq_true rfl, Nat.le_of_ble_eq_true rfl⟩ (Nat.le_of_ble_eq_true rfl) (fun μ3 h3 => ?_)
              have k13g : μ3 m 13 = gpn t := (h3.2.2.2.2.2 13 (by decide)).trans g1.1
              refine v_aload_n aX8_more_151 rfl ?_
              refine v_cVw (c_X8_layValues hM hn5 k13g (LyS.lyd hn5 h3).1 (LyS.lyd hn5 h3).2) aX8_more_152 mX8_layValues vX8_layValues lX8_165 hM.p rfl rfl rfl rfl rfl (Nat.le_of_ble_eq_true rfl) ⟨Nat.le_of_ble_eq_true rfl, Nat.le_of_ble_eq_true rfl⟩ (Nat.le_of_ble_eq_true rfl) (fun μ4 ⟨l1, l2, l3⟩ => ?_)
              have k0 : μ4 m 13 = gpn t := by rw [l3 m (by omega)]; exact k13g
              have k13 : μ4 (m + 13) 0 = bts := by rw [l3 (m + 13) (by omega)]; exact h3.2.2.1.1
              have k14 : μ4 (m + 14) 0 = 5 := by rw [l3 (m + 14) (by omega)]; exact h3.2.2.1.2
              have k10 : μ4 (m + 10) = μ2 (m + 10) := by rw [l3 (m + 10) (by omega)]; exact h3.2.2.2.2.1 _ (by omega) (by omega) (by omega) (by omega) (by omega)
              have m4 : MoAt μ4 m t g n := g4.kp (fun i hi => by rw [l3 m (by omega)]; exact h3.2.2.2.2.2 i (by omega)) (fun q q0 q1 => (l3 q (by omega)).trans (h3.2.2.2.2.1 q (by omega) (by omega) (by omega) (by omega) (by omega)))
              have o4 : Out μ μ4 m 20 := fun q hq => ((l3 q (by omega)).trans (h3.2.2.2.2.1 q (by omega) (by omega) (by omega) (by omega) (by omega))).trans (g5 q hq)
              refine v_iload_n aX8_more_155 rfl ?_
              refine v_if_ne 166 rfl aX8_more_156 (by omega) (fun c156 => ?_) (fun c156 => ?_)
              · --
                refine v_bipush (by decide) aX8_more_166 ?_
                refine v_istore aX8_more_168 (by decide) rfl ?_
                refine v_iconst aX8_more_170 ?_
                refine v_istore aX8_more_171 (by decide) rfl ?_
                refine lg_X8_more hM hn5 k0 l1 l2 (fun i i0 i1 => ?_) (fun f hf => ?_) 6 0 [] (by omega) (by omega) (fun _ g' g0 g1 => by omega)
                · rw [k10]
                  have := (g1.gr (g := i) (by omega) i0 (by rw [g1.1]; exact i1)).1
                  omega
                · rw [k13, k14, hb2] at hf
                  have hf2 : FstQ (gpn t) (GR (Rg t SA) t.1) (-1) f := FstQ_out hn5 hsp (by omega) (by omega) hf
                  have fr : f = -1 ∨ (0 ≤ f ∧ f < gpn t) := by
                    rcases hf with q | q
                    · exact Or.inl q.2
                    · exact Or.inr q.2.1
                  refine ⟨_, rfl, rfl, MoreQ_6 ⟨by omega, by omega, c31, by omega⟩ ⟨_, Or.inl ⟨by omega, rfl⟩, fun q => absurd q (by omega), fun _ => ⟨f, hf2, ?_⟩⟩, m4, o4⟩
                  by_cases q : f = -1
                  · exact Or.inl ⟨q, if_pos q⟩
                  · rw [if_neg q, k10]
                    have := g1.gr (g := f) (by omega) (by omega) (by rw [g1.1]; unfold gpn at fr; omega)
                    exact Or.inr ⟨q, this.1, this.2.1, this.2.2⟩
              · --
                refine v_aload_n aX8_more_159 rfl ?_
                refine v_getr aX8_more_160 fX8_57 hM.p rfl rfl ?_
                refine v_iconst aX8_more_163 ?_
                refine v_iald aX8_more_164 hM.p_value (by omega) (by decide) ?_
                refine v_ireturn aX8_more_165 rfl ⟨Nat.le_refl _, Nat.le_refl _⟩ ?_
                have v0 := l2 0 (by decide) (by have := l1.2.1; omega)
                rw [if_neg (show ¬ (0 : Int) < 0 by decide), if_pos (Int.le_refl _)] at v0
                rw [v0]
                have e8 : VlK μ4 m (gpn t) 0 = (vl (gpn t) (GR (Rg t SA) t.1) (-1) : Int) := by
                  unfold VlK
                  rw [k13, k14, hb2]
                  exact congrArg Int.ofNat (vl_out hn5 hsp (by omega) (by omega))
                exact ⟨_, rfl, rfl, MoreQ_6 ⟨by omega, by omega, c31, by omega⟩ ⟨_, Or.inl ⟨by omega, rfl⟩, fun _ => e8, fun q => absurd q (by omega)⟩, m4, o4⟩
          · --
            refine v_bipush (by decide) aX8_more_49 ?_
            refine v_ireturn aX8_more_51 rfl ⟨Nat.le_refl _, Nat.le_refl _⟩ ?_
            exact ⟨_, rfl, rfl, MoreQ_5 (by omega) (by omega) c31 c46, g4, g5⟩
        · --
          refine v_bipush (by decide) aX8_more_34 ?_
          refine v_ireturn aX8_more_36 rfl ⟨Nat.le_refl _, Nat.le_refl _⟩ ?_
          exact ⟨_, rfl, rfl, MoreQ_3 (by omega) (by omega) c31, r3, r4⟩
      · --
        refine v_bipush (by decide) aX8_more_24 ?_
        refine v_ireturn aX8_more_26 rfl ⟨Nat.le_refl _, Nat.le_refl _⟩ ?_
        exact ⟨_, rfl, rfl, MoreQ_2 (by omega) (by omega), h, Out.rf⟩
    · --
      refine v_iconst aX8_more_13 ?_
      refine v_ireturn aX8_more_14 rfl ⟨Nat.le_refl _, Nat.le_refl _⟩ ?_
      exact ⟨_, rfl, rfl, MoreQ_1 (by omega), h, Out.rf⟩
end MST3
