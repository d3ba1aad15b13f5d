/-! in how many orders: the relation of the class -/
noncomputable def WT (n : Int) (R : Rl) (g : Int → Int) (f s : Int) : Int := if b2i (tb f s ∧ ∀ j : Int, 0 ≤ j → j < 6 → (j < n ∧ Ld R j ∧ R j s ∧ ¬ R s j) → tb f j) = 1 then g (iAnd f (iXor (iShl 1 s) (-1))) else 0
def Lds (n : Int) (R : Rl) (f : Int) : Prop := ∀ j : Int, 0 ≤ j → j < 6 → tb f j → (j < n ∧ Ld R j)
def WO (n : Int) (R : Rl) (g : Int → Int) (N : Int) : Prop := g 0 = 1 ∧ ∀ f : Int, 1 ≤ f → f < N → g f = if b2i (Lds n R f) = 1 then sumN (WT n R g f) n.toNat else 0
theorem clr_lt0 : ∀ f : Nat, f < 64 → ∀ s : Nat, s < 6 → bt (Int32.ofInt (f : Int)) s = true → (0 ≤ iAnd (f : Int) (iXor (iShl 1 (s : Int)) (-1)) ∧ iAnd (f : Int) (iXor (iShl 1 (s : Int)) (-1)) < (f : Int)) := by decide +kernel
theorem clr_lt {f s : Int} (hf : 0 ≤ f ∧ f < 64) (hs : 0 ≤ s ∧ s < 6) (h : tb f s) : 0 ≤ iAnd f (iXor (iShl 1 s) (-1)) ∧ iAnd f (iXor (iShl 1 s) (-1)) < f := by
  have := clr_lt0 f.toNat (by omega) s.toNat (by omega)
  rw [show ((f.toNat : Nat) : Int) = f by omega, show ((s.toNat : Nat) : Int) = s by omega] at this
  exact this h
theorem WT_c {n : Int} {R : Rl} {g g' : Int → Int} {f s : Int} (hf : 0 ≤ f ∧ f < 64) (hs : 0 ≤ s ∧ s < 6) (h : ∀ i : Int, 0 ≤ i → i < f → g i = g' i) : WT n R g f s = WT n R g' f s := by
  unfold WT
  by_cases e : b2i (tb f s ∧ ∀ j : Int, 0 ≤ j → j < 6 → (j < n ∧ Ld R j ∧ R j s ∧ ¬ R s j) → tb f j) = 1
  · have := clr_lt hf hs (b2i_1.mp e).1
    rw [if_pos e, if_pos e, h _ this.1 this.2]
  · rw [if_neg e, if_neg e]
theorem WO_step {n : Int} {R : Rl} {g : Int → Int} {N v : Int} (hN : 1 ≤ N ∧ N < 64) (hn : 0 ≤ n ∧ n ≤ 6) (h : WO n R g N) (hv : v = if b2i (Lds n R N) = 1 then sumN (WT n R g N) n.toNat else 0) : WO n R (iup g N v) (N + 1) := by
  refine ⟨by rw [iup_ne (by omega)]; exact h.1, fun f f1 f2 => ?_⟩
  have key : ∀ f : Int, 1 ≤ f → f ≤ N → sumN (WT n R (iup g N v) f) n.toNat = sumN (WT n R g f) n.toNat := fun f f1 f2 => sumN_c _ (fun i h0 h1 => WT_c (by omega) (by omega) (fun j j0 j1 => iup_ne (by omega)))
  rw [key f f1 (by omega)]
  by_cases e : f = N
  · rw [e, iup_same]; exact hv
  · rw [iup_ne e]; exact h.2 f f1 (by omega)
theorem andnot6 {a b : Int} (ha : 0 ≤ a ∧ a.toNat < 2 ^ 6) : iAnd a (iXor b (-1)) = 0 ↔ ∀ j : Int, 0 ≤ j → j < 6 → tb a j → tb b j := by
  rw [andnot0]
  exact ⟨fun h j h0 h1 => h j h0 (by omega), fun h j h0 h1 q => (Int.lt_or_le j 6).elim (fun e => h j h0 e q) (fun e => absurd q (tb_hi 6 ha.1 ha.2 (by omega)))⟩
section ORD
variable {l : Launch} {G : Glb} {S : Sh} {μ : Mu} {b : Nat} {R : Rl}
set_option maxHeartbeats 4000000 in
set_option maxRecDepth 100000 in
theorem li_X4_waysToBegin {f : Int} (hR : RelS S b) (hr : Rows (μ (b + 1)) R) (hn : 0 ≤ μ b 2 ∧ μ b 2 ≤ 6) (hm : Msk (μ b 3) (fun j => j < μ b 2 ∧ Ld R j)) (hf : 0 ≤ f ∧ f.toNat < 2 ^ 6) : ∀ (N : Nat) (i z : Int) (L : List Value), (0 ≤ i ∧ i ≤ μ b 2) → μ b 2 - i < N → z = sumN (WT (μ b 2) R (μ (b + 2)) f) i.toNat → V l G cX4_waysToBegin (yX4_waysToBegin, 5, (some FieldType.int), 4, 0, 0) (Ri S (sumN (WT (μ b 2) R (μ (b + 2)) f) (μ b 2).toNat) μ) (0, 0) S μ 4 ([.ref b, vi f, vi z, vi i] ++ L) [] := by
  intro N
  induction N with
  | zero => intros; omega
  | succ N ih =>
    intro i z L h0 h1 hz
    refine v_take 4 rfl ?_
    show V _ _ _ _ _ _ _ _ _ [.ref b, vi f, vi z, vi i] _
    have hcl := and_rng (b := iXor (iShl 1 i) (-1)) 6 (by decide) hf
    have hp : (2 : Nat) ^ 6 = 64 := rfl
    have hb := b2i_r (p := tb f i)
    refine v_iload_n aX4_waysToBegin_4 rfl ?_
    refine v_aload_n aX4_waysToBegin_5 rfl ?_
    refine v_gi 2 rfl aX4_waysToBegin_6 fX4_24 hR.p rfl rfl ?_
    refine v_icmp_ge 66 rfl aX4_waysToBegin_9 (by omega) (by omega) (fun c9 => ?_) (fun c9 => ?_)
    · --
      refine v_iload_n aX4_waysToBegin_66 rfl ?_
      refine v_ireturn aX4_waysToBegin_67 rfl ⟨Nat.le_refl _, Nat.le_refl _⟩ ?_
      obtain rfl : i = μ b 2 := by omega
      exact ⟨by rw [hz], rfl, rfl⟩
    · --
      refine v_iload_n aX4_waysToBegin_12 rfl ?_
      refine v_iload_n aX4_waysToBegin_13 rfl ?_
      refine v_ishr aX4_waysToBegin_14 ?_
      refine v_iconst aX4_waysToBegin_15 ?_
      refine v_iand aX4_waysToBegin_16 ?_
      refine v_top (bit01 (by omega)) ?_
      refine v_iconst aX4_waysToBegin_17 ?_
      refine v_icmp_ne 25 rfl aX4_waysToBegin_18 (by omega) (by omega) (fun c18 => ?_) (fun c18 => ?_)
      · --
        refine v_iconst aX4_waysToBegin_25 ?_
        refine v_istore aX4_waysToBegin_26 (by decide) rfl ?_
        refine v_iload aX4_waysToBegin_28 rfl ?_
        refine v_if_eq 60 rfl aX4_waysToBegin_30 (by omega) (fun c30 => ?_) (fun c30 => ?_)
        · --
          refine v_iinc aX4_waysToBegin_60 rfl (by decide) rfl ?_
          refine v_goto 4 rfl aX4_waysToBegin_63 ?_
          first
            | (exfalso; omega)
            | (refine ih (i + 1) _ [vi _] (by omega) (by omega) ?_
               rw [sumN_s h0.1, hz, show WT (μ b 2) R (μ (b + 2)) f i = 0 from if_neg (fun q => c18 (b2i_t (b2i_1.mp q).1)), Int.add_zero])
        · --
          refine v_aload_n aX4_waysToBegin_33 rfl ?_
          refine v_iload_n aX4_waysToBegin_34 rfl ?_
          refine v_cVe (c_X4_heavierLeaders hR hr hn hm (by omega)) aX4_waysToBegin_35 mX4_heavierLeaders vX4_heavierLeaders lX4_80 hR.p rfl rfl rfl rfl rfl (Nat.le_of_ble_eq_true rfl) ⟨Nat.le_of_ble_eq_true rfl, Nat.le_of_ble_eq_true rfl⟩ (Nat.le_of_ble_eq_true rfl) (fun w μ' hw => ?_)
          obtain ⟨rfl, hw⟩ := hw
          refine v_iload_n aX4_waysToBegin_38 rfl ?_
          refine v_iconst aX4_waysToBegin_39 ?_
          refine v_ixor aX4_waysToBegin_40 ?_
          refine v_iand aX4_waysToBegin_41 ?_
          have hr2 := iAnd_r (a := w) (b := iXor f (-1))
          refine v_if_ne 60 rfl aX4_waysToBegin_42 (by omega) (fun c42 => ?_) (fun c42 => ?_)
          · --
            refine v_iinc aX4_waysToBegin_60 rfl (by decide) rfl ?_
            refine v_goto 4 rfl aX4_waysToBegin_63 ?_
            first
              | (exfalso; omega)
              | (refine ih (i + 1) _ [vi _] (by omega) (by omega) ?_
                 rw [sumN_s h0.1, hz, show WT (μ' b 2) R (μ' (b + 2)) f i = 0 from if_neg (fun q => c42 ((andnot6 hw.1).mpr (fun j j0 j1 hj => (b2i_1.mp q).2 j j0 j1 (by have := (hw.2 j j0 j1).mp hj; exact this)))), Int.add_zero])
          · --
            refine v_iload_n aX4_waysToBegin_45 rfl ?_
            refine v_aload_n aX4_waysToBegin_46 rfl ?_
            refine v_getr aX4_waysToBegin_47 fX4_15 hR.p rfl rfl ?_
            refine v_iload_n aX4_waysToBegin_50 rfl ?_
            refine v_iconst aX4_waysToBegin_51 ?_
            refine v_iload_n aX4_waysToBegin_52 rfl ?_
            refine v_ishl aX4_waysToBegin_53 ?_
            refine v_iconst aX4_waysToBegin_54 ?_
            refine v_ixor aX4_waysToBegin_55 ?_
            refine v_iand aX4_waysToBegin_56 ?_
            refine v_iald aX4_waysToBegin_57 hR.p_ways (by omega) (by decide) ?_
            refine v_iadd aX4_waysToBegin_58 ?_
            refine v_istore_n aX4_waysToBegin_59 (by decide) rfl ?_
            refine v_iinc aX4_waysToBegin_60 rfl (by decide) rfl ?_
            refine v_goto 4 rfl aX4_waysToBegin_63 ?_
            first
              | (exfalso; omega)
              | (refine ih (i + 1) _ [vi _] (by omega) (by omega) ?_
                 rw [sumN_s h0.1, hz, show WT (μ' b 2) R (μ' (b + 2)) f i = μ' (b + 2) (iAnd f (iXor (iShl 1 i) (-1))) from if_pos (b2i_t ⟨b2i_1.mp c18, fun j j0 j1 hj => (andnot6 hw.1).mp c42 j j0 j1 ((hw.2 j j0 j1).mpr hj)⟩)])
      · --
        refine v_iconst aX4_waysToBegin_21 ?_
        refine v_goto 26 rfl aX4_waysToBegin_22 ?_
        refine v_istore aX4_waysToBegin_26 (by decide) rfl ?_
        refine v_iload aX4_waysToBegin_28 rfl ?_
        refine v_if_eq 60 rfl aX4_waysToBegin_30 (by omega) (fun c30 => ?_) (fun c30 => ?_)
        · --
          refine v_iinc aX4_waysToBegin_60 rfl (by decide) rfl ?_
          refine v_goto 4 rfl aX4_waysToBegin_63 ?_
          first
            | (exfalso; omega)
            | (refine ih (i + 1) _ [vi _] (by omega) (by omega) ?_
               rw [sumN_s h0.1, hz, show WT (μ b 2) R (μ (b + 2)) f i = 0 from if_neg (fun q => c18 (b2i_t (b2i_1.mp q).1)), Int.add_zero])
        · --
          refine v_aload_n aX4_waysToBegin_33 rfl ?_
          refine v_iload_n aX4_waysToBegin_34 rfl ?_
          refine v_cVe (c_X4_heavierLeaders hR hr hn hm (by omega)) aX4_waysToBegin_35 mX4_heavierLeaders vX4_heavierLeaders lX4_80 hR.p rfl rfl rfl rfl rfl (Nat.le_of_ble_eq_true rfl) ⟨Nat.le_of_ble_eq_true rfl, Nat.le_of_ble_eq_true rfl⟩ (Nat.le_of_ble_eq_true rfl) (fun w μ' hw => ?_)
          obtain ⟨rfl, hw⟩ := hw
          refine v_iload_n aX4_waysToBegin_38 rfl ?_
          refine v_iconst aX4_waysToBegin_39 ?_
          refine v_ixor aX4_waysToBegin_40 ?_
          refine v_iand aX4_waysToBegin_41 ?_
          have hr2 := iAnd_r (a := w) (b := iXor f (-1))
          refine v_if_ne 60 rfl aX4_waysToBegin_42 (by omega) (fun c42 => ?_) (fun c42 => ?_)
          · --
            refine v_iinc aX4_waysToBegin_60 rfl (by decide) rfl ?_
            refine v_goto 4 rfl aX4_waysToBegin_63 ?_
            first
              | (exfalso; omega)
              | (refine ih (i + 1) _ [vi _] (by omega) (by omega) ?_
                 rw [sumN_s h0.1, hz, show WT (μ' b 2) R (μ' (b + 2)) f i = 0 from if_neg (fun q => c42 ((andnot6 hw.1).mpr (fun j j0 j1 hj => (b2i_1.mp q).2 j j0 j1 (by have := (hw.2 j j0 j1).mp hj; exact this)))), Int.add_zero])
          · --
            refine v_iload_n aX4_waysToBegin_45 rfl ?_
            refine v_aload_n aX4_waysToBegin_46 rfl ?_
            refine v_getr aX4_waysToBegin_47 fX4_15 hR.p rfl rfl ?_
            refine v_iload_n aX4_waysToBegin_50 rfl ?_
            refine v_iconst aX4_waysToBegin_51 ?_
            refine v_iload_n aX4_waysToBegin_52 rfl ?_
            refine v_ishl aX4_waysToBegin_53 ?_
            refine v_iconst aX4_waysToBegin_54 ?_
            refine v_ixor aX4_waysToBegin_55 ?_
            refine v_iand aX4_waysToBegin_56 ?_
            refine v_iald aX4_waysToBegin_57 hR.p_ways (by omega) (by decide) ?_
            refine v_iadd aX4_waysToBegin_58 ?_
            refine v_istore_n aX4_waysToBegin_59 (by decide) rfl ?_
            refine v_iinc aX4_waysToBegin_60 rfl (by decide) rfl ?_
            refine v_goto 4 rfl aX4_waysToBegin_63 ?_
            first
              | (exfalso; omega)
              | (refine ih (i + 1) _ [vi _] (by omega) (by omega) ?_
                 rw [sumN_s h0.1, hz, show WT (μ' b 2) R (μ' (b + 2)) f i = μ' (b + 2) (iAnd f (iXor (iShl 1 i) (-1))) from if_pos (b2i_t ⟨b2i_1.mp c18, fun j j0 j1 hj => (andnot6 hw.1).mp c42 j j0 j1 ((hw.2 j j0 j1).mpr hj)⟩)])
set_option maxHeartbeats 4000000 in
set_option maxRecDepth 100000 in
theorem c_X4_waysToBegin {f : Int} (hR : RelS S b) (hr : Rows (μ (b + 1)) R) (hn : 0 ≤ μ b 2 ∧ μ b 2 ≤ 6) (hm : Msk (μ b 3) (fun j => j < μ b 2 ∧ Ld R j)) (hf : 0 ≤ f ∧ f.toNat < 2 ^ 6) : Ct l G cX4_waysToBegin (yX4_waysToBegin, 5, (some FieldType.int), 4, 0, 0) [.ref b, vi f] S μ (Ri S (sumN (WT (μ b 2) R (μ (b + 2)) f) (μ b 2).toNat) μ) := by
  refine Ct.of (by decide) rfl (by simp [vi, Value.category]) (Nat.le_of_ble_eq_true rfl) ?_
  refine v_iconst aX4_waysToBegin_0 ?_
  refine v_istore_n aX4_waysToBegin_1 (by decide) rfl ?_
  refine v_iconst aX4_waysToBegin_2 ?_
  refine v_istore_n aX4_waysToBegin_3 (by decide) rfl ?_
  exact li_X4_waysToBegin hR hr hn hm hf 7 0 0 [] (by omega) (by omega) rfl
set_option maxHeartbeats 4000000 in
set_option maxRecDepth 100000 in
theorem li_X4_orderCount {μ0 : Mu} (hR : RelS S b) (hr : Rows (μ0 (b + 1)) R) (hn : 0 ≤ μ0 b 2 ∧ μ0 b 2 ≤ 6) (ha : Msk (μ0 b 3) (fun j => j < μ0 b 2 ∧ Ld R j)) : ∀ (N : Nat) (i : Int) (g : Int → Int), (1 ≤ i ∧ i ≤ 64) → 64 - i < N → WO (μ0 b 2) R g i → V l G cX4_orderCount (yX4_orderCount, 2, (some FieldType.int), 5, 0, 0) (Re S (fun z μ' => ∃ g' a, μ' = row μ0 (b + 2) g' ∧ WO (μ0 b 2) R g' 64 ∧ Msk a (fun j => j < μ0 b 2 ∧ Ld R j) ∧ z = g' a)) (0, 0) S (row μ0 (b + 2) g) 9 [.ref b, vi i] [] := by
  intro N
  induction N with
  | zero => intros; omega
  | succ N ih =>
    intro i g h0 h1 hg
    have hp : (2 : Nat) ^ 6 = 64 := rfl
    have ha1 := ha.1
    have hr' : Rows (row μ0 (b + 2) g (b + 1)) R := by rw [row_ne (by omega)]; exact hr
    have hn' : 0 ≤ row μ0 (b + 2) g b 2 ∧ row μ0 (b + 2) g b 2 ≤ 6 := by rw [row_ne (by omega)]; exact hn
    have hm' : Msk (row μ0 (b + 2) g b 3) (fun j => j < row μ0 (b + 2) g b 2 ∧ Ld R j) := by rw [row_ne (show b ≠ b + 2 by omega)]; exact ha
    have e3 : row μ0 (b + 2) g b 3 = μ0 b 3 := by rw [row_ne (show b ≠ b + 2 by omega)]
    have hr2 := iAnd_r (a := i) (b := iXor (μ0 b 3) (-1))
    refine v_iload_n aX4_orderCount_9 rfl ?_
    refine v_aload_n aX4_orderCount_10 rfl ?_
    refine v_getr aX4_orderCount_11 fX4_15 hR.p rfl rfl ?_
    refine v_alen (kk := 100) rfl aX4_orderCount_14 hR.p_ways rfl ?_
    refine v_top (w := 64) rfl ?_
    refine v_icmp_ge 50 rfl aX4_orderCount_15 (by omega) (by omega) (fun c15 => ?_) (fun c15 => ?_)
    · --
      refine v_aload_n aX4_orderCount_50 rfl ?_
      refine v_getr aX4_orderCount_51 fX4_15 hR.p rfl rfl ?_
      refine v_aload_n aX4_orderCount_54 rfl ?_
      refine v_gi 3 rfl aX4_orderCount_55 fX4_61 hR.p rfl rfl ?_
      refine v_top e3 ?_
      refine v_iald aX4_orderCount_58 hR.p_ways (by omega) (by decide) ?_
      rw [row_same]
      refine v_ireturn aX4_orderCount_59 rfl ⟨Nat.le_refl _, Nat.le_refl _⟩ ?_
      obtain rfl : i = 64 := by omega
      exact ⟨_, rfl, rfl, g, _, rfl, hg, ha, rfl⟩
    · --
      refine v_aload_n aX4_orderCount_18 rfl ?_
      refine v_getr aX4_orderCount_19 fX4_15 hR.p rfl rfl ?_
      refine v_iload_n aX4_orderCount_22 rfl ?_
      refine v_iload_n aX4_orderCount_23 rfl ?_
      refine v_aload_n aX4_orderCount_24 rfl ?_
      refine v_gi 3 rfl aX4_orderCount_25 fX4_61 hR.p rfl rfl ?_
      refine v_top e3 ?_
      refine v_iconst aX4_orderCount_28 ?_
      refine v_ixor aX4_orderCount_29 ?_
      refine v_iand aX4_orderCount_30 ?_
      refine v_if_ne 42 rfl aX4_orderCount_31 (by omega) (fun c31 => ?_) (fun c31 => ?_)
      · --
        refine v_iconst aX4_orderCount_42 ?_
        refine v_iast aX4_orderCount_43 hR.p_ways (by omega) (by decide) ?_
        refine v_iinc aX4_orderCount_44 rfl (by decide) rfl ?_
        refine v_goto 9 rfl aX4_orderCount_47 ?_
        have hlds : Lds (μ0 b 2) R i ↔ iAnd i (iXor (μ0 b 3) (-1)) = 0 := by
          rw [andnot6 (by omega)]
          exact ⟨fun q j j0 j1 hj => (ha.2 j j0 j1).mpr (q j j0 j1 hj), fun q j j0 j1 hj => (ha.2 j j0 j1).mp (q j j0 j1 hj)⟩
        refine v_mu (upd2_iup.trans (by rw [row_same, row_row])) ?_
        refine ih (i + 1) _ (by omega) (by omega) (WO_step (by omega) hn hg ?_)
        rw [if_neg (fun q => c31 (hlds.mp (b2i_1.mp q)))]
      · --
        refine v_aload_n aX4_orderCount_34 rfl ?_
        refine v_iload_n aX4_orderCount_35 rfl ?_
        refine v_cVi (c_X4_waysToBegin hR hr' hn' hm' (by omega)) aX4_orderCount_36 mX4_waysToBegin vX4_waysToBegin lX4_87 hR.p rfl rfl rfl rfl rfl (Nat.le_of_ble_eq_true rfl) ⟨Nat.le_of_ble_eq_true rfl, Nat.le_of_ble_eq_true rfl⟩ (Nat.le_of_ble_eq_true rfl) ?_
        refine v_goto 43 rfl aX4_orderCount_39 ?_
        refine v_iast aX4_orderCount_43 hR.p_ways (by omega) (by decide) ?_
        refine v_iinc aX4_orderCount_44 rfl (by decide) rfl ?_
        refine v_goto 9 rfl aX4_orderCount_47 ?_
        have hlds : Lds (μ0 b 2) R i ↔ iAnd i (iXor (μ0 b 3) (-1)) = 0 := by
          rw [andnot6 (by omega)]
          exact ⟨fun q j j0 j1 hj => (ha.2 j j0 j1).mpr (q j j0 j1 hj), fun q j j0 j1 hj => (ha.2 j j0 j1).mp (q j j0 j1 hj)⟩
        refine v_mu (upd2_iup.trans (by rw [row_same, row_row, row_ne (show b ≠ b + 2 by omega)])) ?_
        refine ih (i + 1) _ (by omega) (by omega) (WO_step (by omega) hn hg ?_)
        rw [if_pos (b2i_t (hlds.mpr c31))]
set_option maxHeartbeats 4000000 in
set_option maxRecDepth 100000 in
theorem c_X4_orderCount (hR : RelS S b) (hr : Rows (μ (b + 1)) R) (hn : 0 ≤ μ b 2 ∧ μ b 2 ≤ 6) (hm : Msk (μ b 3) (fun j => j < μ b 2 ∧ Ld R j)) : Ct l G cX4_orderCount (yX4_orderCount, 2, (some FieldType.int), 5, 0, 0) [.ref b] S μ (Re S (fun z μ' => ∃ g' a, μ' = row μ (b + 2) g' ∧ WO (μ b 2) R g' 64 ∧ Msk a (fun j => j < μ b 2 ∧ Ld R j) ∧ z = g' a)) := by
  refine Ct.of (by decide) rfl (by simp [vi, Value.category]) (Nat.le_of_ble_eq_true rfl) ?_
  refine v_aload_n aX4_orderCount_0 rfl ?_
  refine v_getr aX4_orderCount_1 fX4_15 hR.p rfl rfl ?_
  refine v_iconst aX4_orderCount_4 ?_
  refine v_iconst aX4_orderCount_5 ?_
  refine v_iast aX4_orderCount_6 hR.p_ways (by omega) (by decide) ?_
  refine v_iconst aX4_orderCount_7 ?_
  refine v_istore_n aX4_orderCount_8 (by decide) rfl ?_
  refine v_mu upd2_iup ?_
  exact li_X4_orderCount hR hr hn hm 64 1 _ (by omega) (by omega) ⟨iup_same, fun f f1 f2 => by omega⟩
end ORD
