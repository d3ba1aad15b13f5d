/-! lineBy: the model -/
section LB4
variable {l : Launch} {G : Glb} {S : Sh} {μ : Mu} {m : Nat} {t : BSt} {g : Int → Int} {n B : Int}
set_option maxHeartbeats 4000000 in
set_option maxRecDepth 100000 in
theorem l3_X8_lineBy {μ0 : Mu} {wh wa cs fo be : Int} (hM : ModS S m) (hn : 2 ≤ n ∧ n ≤ 6) (hlen : μ0 m 0 = n) (hwh : 0 ≤ wh ∧ wh ≤ 1) (hwa : 0 ≤ wa ∧ wa ≤ 1) (hT : ∀ i : Int, 0 ≤ i → i < 6 → 0 ≤ (μ0 (m + 7)) i ∧ (μ0 (m + 7)) i ≤ 99) (hbe : be = (exN wh (μ0 (m + 7)) n (fcI n - 1)).2) : ∀ (N : Nat) (i z : Int) (μ : Mu), (0 ≤ i ∧ i ≤ n) → n - i < N → (∀ k : Int, 0 ≤ k → k < n → μ (m + 19) k = lnI n (exN wh (μ0 (m + 7)) n (fcI n - 1)).1 k) → z = num10 (lnI n (exN wh (μ0 (m + 7)) n (fcI n - 1)).1) i.toNat → (∀ q : Nat, q ≠ m + 8 → q ≠ m + 9 → q ≠ m + 19 → μ q = μ0 q) → V l G cX8_lineBy (yX8_lineBy, 9, (some FieldType.int), 3, 0, 0) (Re S (fun z μ' => z = (if wa = 0 then num10 (lnI n (exN wh (μ0 (m + 7)) n (fcI n - 1)).1) n.toNat else (exN wh (μ0 (m + 7)) n (fcI n - 1)).2) ∧ (∀ q : Nat, q ≠ m + 8 → q ≠ m + 9 → q ≠ m + 19 → μ' q = μ0 q))) (0, 0) S μ 141 [.ref m, vi wh, vi wa, vi cs, vi fo, vi be, vi z, vi 1, vi i] [] := by
  intro N
  induction N with
  | zero => intros; omega
  | succ N ih =>
    intro i z μ h0 h1 hl hz hk
    have f0 : μ m 0 = n := by rw [hk _ (by omega) (by omega) (by omega)]; exact hlen
    have hli := fun y => hl i h0.1 y
    refine v_iload aX8_lineBy_141 rfl ?_
    refine v_aload_n aX8_lineBy_143 rfl ?_
    refine v_gi 0 rfl aX8_lineBy_144 fX8_7 hM.p rfl rfl ?_
    rw [f0]
    refine v_icmp_ge 176 rfl aX8_lineBy_147 (by omega) (by omega) (fun c147 => ?_) (fun c147 => ?_)
    · --
      refine v_iload_n aX8_lineBy_176 rfl ?_
      refine v_if_ne 185 rfl aX8_lineBy_177 (by omega) (fun c177 => ?_) (fun c177 => ?_)
      · --
        refine v_iload aX8_lineBy_185 rfl ?_
        refine v_ireturn aX8_lineBy_187 rfl ⟨Nat.le_refl _, Nat.le_refl _⟩ ?_
        obtain rfl : i = n := by omega
        exact ⟨_, rfl, rfl, by rw [if_neg c177, hbe], hk⟩
      · --
        refine v_iload aX8_lineBy_180 rfl ?_
        refine v_goto 187 rfl aX8_lineBy_182 ?_
        refine v_ireturn aX8_lineBy_187 rfl ⟨Nat.le_refl _, Nat.le_refl _⟩ ?_
        obtain rfl : i = n := by omega
        exact ⟨_, rfl, rfl, by rw [if_pos c177, hz], hk⟩
    · --
      refine v_iload aX8_lineBy_150 rfl ?_
      refine v_if_eq 176 rfl aX8_lineBy_152 (by omega) (fun c152 => ?_) (fun c152 => ?_)
      · exact absurd c152 (by decide)
      · --
        refine v_bipush (by decide) aX8_lineBy_155 ?_
        refine v_iload aX8_lineBy_157 rfl ?_
        refine v_imul aX8_lineBy_159 ?_
        refine v_aload_n aX8_lineBy_160 rfl ?_
        refine v_getr aX8_lineBy_161 fX8_70 hM.p rfl rfl ?_
        refine v_iload aX8_lineBy_164 rfl ?_
        refine v_iald aX8_lineBy_166 hM.p_order (by omega) (by decide) ?_
        rw [hli (by omega)]
        refine v_iadd aX8_lineBy_167 ?_
        refine v_istore aX8_lineBy_168 (by decide) rfl ?_
        refine v_iinc aX8_lineBy_170 rfl (by decide) rfl ?_
        refine v_goto 141 rfl aX8_lineBy_173 ?_
        refine ih (i + 1) _ μ (by omega) (by omega) hl ?_ hk
        rw [num10_s h0.1, hz]
        omega
set_option maxHeartbeats 4000000 in
set_option maxRecDepth 100000 in
theorem lo_X8_lineBy {μ0 : Mu} {wh wa cs : Int} (hM : ModS S m) (hn : 2 ≤ n ∧ n ≤ 6) (hlen : μ0 m 0 = n) (hwh : 0 ≤ wh ∧ wh ≤ 1) (hwa : 0 ≤ wa ∧ wa ≤ 1) (hT : ∀ i : Int, 0 ≤ i → i < 6 → 0 ≤ (μ0 (m + 7)) i ∧ (μ0 (m + 7)) i ≤ 99) (hcs : cs = ((n.toNat ^ n.toNat : Nat) : Int)) : ∀ (N : Nat) (c fo be : Int) (μ : Mu) (L : List Value), (0 ≤ c ∧ c ≤ cs) → cs - c < N → (∃ i : Nat, i ≤ fcI n ∧ (i = 0 ∨ ((pc n.toNat (i - 1) : Nat) : Int) < c) ∧ (i < fcI n → c ≤ ((pc n.toNat i : Nat) : Int)) ∧ ((i = 0 ∧ fo = -6 ∧ be = 0) ∨ (0 < i ∧ fo = ((pc n.toNat (exN wh (μ0 (m + 7)) n (i - 1)).1 : Nat) : Int) ∧ be = (exN wh (μ0 (m + 7)) n (i - 1)).2))) → (∀ q : Nat, q ≠ m + 8 → q ≠ m + 9 → q ≠ m + 19 → μ q = μ0 q) → V l G cX8_lineBy (yX8_lineBy, 9, (some FieldType.int), 3, 0, 0) (Re S (fun z μ' => z = (if wa = 0 then num10 (lnI n (exN wh (μ0 (m + 7)) n (fcI n - 1)).1) n.toNat else (exN wh (μ0 (m + 7)) n (fcI n - 1)).2) ∧ (∀ q : Nat, q ≠ m + 8 → q ≠ m + 9 → q ≠ m + 19 → μ' q = μ0 q))) (0, 0) S μ 58 ([.ref m, vi wh, vi wa, vi cs, vi fo, vi be, vi c] ++ L) [] := by
  intro N
  induction N with
  | zero => intros; omega
  | succ N ih =>
    intro c fo be μ L h0 h1 ⟨i, h2, h3, hlt, h4⟩ hk
    have hnn := nn_r (n := n.toNat) (by omega)
    have hfc := fc_r (n := n.toNat) (by omega)
    have hfc : 2 ≤ fcI n ∧ fcI n ≤ 720 := hfc
    have f0 : μ m 0 = n := by rw [hk _ (by omega) (by omega) (by omega)]; exact hlen
    have hxr := exN_r (wh := wh) (T := μ0 (m + 7)) (n := n) (by omega) (i - 1)
    have her : 0 < i → (exN wh (μ0 (m + 7)) n (i - 1)).1 < fcI n := fun _ => by omega
    have hfo : -6 ≤ fo ∧ fo < 65536 := by
      rcases h4 with y | y
      · omega
      · have := (ln_vd hn (her y.1)).2
        omega
    have hbe : 0 ≤ be ∧ be ≤ 36 := by
      rcases h4 with y | y <;> omega
    refine v_take 7 rfl ?_
    show V _ _ _ _ _ _ _ _ _ [.ref m, vi wh, vi wa, vi cs, vi fo, vi be, vi c] _
    refine v_iload aX8_lineBy_58 rfl ?_
    refine v_iload_n aX8_lineBy_60 rfl ?_
    refine v_icmp_ge 123 rfl aX8_lineBy_61 (by omega) (by omega) (fun c61 => ?_) (fun c61 => ?_)
    · --
      have hif : i = fcI n := by
        rcases Nat.lt_or_ge i (fcI n) with y | y
        · exfalso
          have h5 := hlt y
          have h6 := (ln_vd hn y).2
          omega
        · omega
      have h5 := (h4.resolve_left (by omega)).2
      rw [hif] at h5 her
      have hvf := (ln_vd hn (her (by omega))).1
      rw [← h5.1] at hvf
      have hfo0 : 0 ≤ fo := by rw [h5.1]; omega
      refine v_iconst aX8_lineBy_123 ?_
      refine v_istore aX8_lineBy_124 (by decide) rfl ?_
      refine v_aload_n aX8_lineBy_126 rfl ?_
      refine v_iload aX8_lineBy_127 rfl ?_
      refine v_aload_n aX8_lineBy_129 rfl ?_
      refine v_gi 0 rfl aX8_lineBy_130 fX8_7 hM.p rfl rfl ?_
      rw [f0]
      refine v_cVe (c_X8_layOrder hM hn f0 (x := fo) (by omega) (by omega)) aX8_lineBy_133 mX8_layOrder vX8_layOrder lX8_184 hM.p rfl rfl rfl rfl rfl (Nat.le_of_ble_eq_true rfl) ⟨Nat.le_of_ble_eq_true rfl, Nat.le_of_ble_eq_true rfl⟩ (Nat.le_of_ble_eq_true rfl) (fun z3 μ3 ⟨r1, r2, r3⟩ => ?_)
      refine v_istore aX8_lineBy_136 (by decide) rfl ?_
      refine v_iconst aX8_lineBy_138 ?_
      refine v_istore aX8_lineBy_139 (by decide) rfl ?_
      rw [show z3 = 1 from r1.trans (b2i_t hvf)]
      refine l3_X8_lineBy hM hn hlen hwh hwa hT h5.2 7 0 0 μ3 (by omega) (by omega) (fun k k0 k1 => ?_) rfl (fun q q0 q1 q2 => (r3 q q2).trans (hk q q0 q1 q2))
      rw [r2 k k0 k1, h5.1]
      rfl
    · --
      refine v_aload_n aX8_lineBy_64 rfl ?_
      refine v_iload aX8_lineBy_65 rfl ?_
      refine v_aload_n aX8_lineBy_67 rfl ?_
      refine v_gi 0 rfl aX8_lineBy_68 fX8_7 hM.p rfl rfl ?_
      rw [f0]
      refine v_cVe (c_X8_layOrder hM hn f0 (by omega) (by omega)) aX8_lineBy_71 mX8_layOrder vX8_layOrder lX8_184 hM.p rfl rfl rfl rfl rfl (Nat.le_of_ble_eq_true rfl) ⟨Nat.le_of_ble_eq_true rfl, Nat.le_of_ble_eq_true rfl⟩ (Nat.le_of_ble_eq_true rfl) (fun z μ1 ⟨r1, r2, r3⟩ => ?_)
      have hzr := b2i_01 (p := Vd n n c)
      rw [← r1] at hzr
      refine v_if_eq 117 rfl aX8_lineBy_74 (by omega) (fun c74 => ?_) (fun c74 => ?_)
      · --
        refine v_iinc aX8_lineBy_117 rfl (by decide) rfl ?_
        refine v_goto 58 rfl aX8_lineBy_120 ?_
        have nv : ¬ Vd n n c := fun y => by have := b2i_t y; omega
        refine ih (c + 1) fo be μ1 [] (by omega) (by omega) ⟨i, h2, h3.imp id (fun y => by omega), fun y => ?_, h4⟩ (fun q q0 q1 q2 => (r3 q q2).trans (hk q q0 q1 q2))
        have h5 := hlt y
        have : c ≠ ((pc n.toNat i : Nat) : Int) := fun e => nv (by rw [e]; exact (ln_vd hn y).1)
        omega
      · --
        have hv := b2i_1.mp (r1.symm.trans (show z = 1 by omega))
        obtain ⟨i', i0', i1'⟩ := vd_ln hn h0.1 hv
        have hii : i' = i := by
          rcases Nat.lt_trichotomy i' i with y | y | y
          · exfalso
            have := (pc_mono (n := n) hn (i := i') (i - 1 - i') (by omega)).1
            rw [show i' + (i - 1 - i') = i - 1 by omega] at this
            omega
          · exact y
          · exfalso
            have h5 := hlt (by omega)
            have := (pc_mono (n := n) hn (i := i) (i' - i) (by omega)).2 (by omega)
            rw [show i + (i' - i) = i' by omega] at this
            omega
        subst hii
        have f1 : μ1 m 0 = n := by rw [r3 m (by omega)]; exact f0
        have hpm : Pm n (μ1 (m + 19)) := hv.2.c r2
        have f7 : μ1 (m + 7) = μ0 (m + 7) := by rw [r3 _ (by omega)]; exact hk _ (by omega) (by omega) (by omega)
        have hTT : ∀ i : Int, 0 ≤ i → i < 6 → 0 ≤ μ1 (m + 7) i ∧ μ1 (m + 7) i ≤ 99 := by rw [f7]; exact hT
        refine v_aload_n aX8_lineBy_77 rfl ?_
        refine v_cVe (c_X8_leftOpen hM hn f1 hpm hTT) aX8_lineBy_78 mX8_leftOpen vX8_leftOpen lX8_187 hM.p rfl rfl rfl rfl rfl (Nat.le_of_ble_eq_true rfl) ⟨Nat.le_of_ble_eq_true rfl, Nat.le_of_ble_eq_true rfl⟩ (Nat.le_of_ble_eq_true rfl) (fun z2 μ2 ⟨j1, j2⟩ => ?_)
        have fr2 : ∀ q : Nat, q ≠ m + 8 → q ≠ m + 9 → q ≠ m + 19 → μ2 q = μ0 q := fun q q0 q1 q2 => (j2 q q0 q1).trans ((r3 q q2).trans (hk q q0 q1 q2))
        have hz2 : z2 = opl (μ0 (m + 7)) (lnI n i') n := by
          rw [j1, f7]
          refine (opl_c (by omega) (fun k k0 k1 => ?_) (fun k k0 k1 => ?_)).symm
          · rw [r2 k k0 k1]; unfold lnI; rw [i1']
          · rw [r2 k k0 k1]; unfold lnI; rw [i1']
        have hor := opl_r (T := μ0 (m + 7)) (f := lnI n i') (n := n) (by omega)
        refine v_istore aX8_lineBy_81 (by decide) rfl ?_
        refine v_iload aX8_lineBy_83 rfl ?_
        refine v_if_lt 109 rfl aX8_lineBy_85 (by omega) (fun c85 => ?_) (fun c85 => ?_)
        · --
          refine v_iload aX8_lineBy_109 rfl ?_
          refine v_istore aX8_lineBy_111 (by decide) rfl ?_
          refine v_iload aX8_lineBy_113 rfl ?_
          refine v_istore aX8_lineBy_115 (by decide) rfl ?_
          refine v_iinc aX8_lineBy_117 rfl (by decide) rfl ?_
          refine v_goto 58 rfl aX8_lineBy_120 ?_
          have hex : exN wh (μ0 (m + 7)) n i' = (i', opl (μ0 (m + 7)) (lnI n i') n) := by
            by_cases y : i' = 0
            · rw [y]; rfl
            · have e1 : i' = i' - 1 + 1 := by omega
              have h5 := h4.resolve_left (by omega)
              rw [e1]
              refine exN_take (fun e => ?_) (fun e => ?_) <;> (rw [← e1, ← h5.2.2]; omega)
          refine ih (c + 1) c z2 μ2 [vi _] (by omega) (by omega) ⟨i' + 1, by omega, Or.inr (by rw [Nat.add_sub_cancel]; omega), fun y => ?_, Or.inr ⟨by omega, ?_, ?_⟩⟩ fr2
          · have := (ln_next hn y).1; omega
          · rw [Nat.add_sub_cancel, hex]; exact i1'.symm
          · rw [Nat.add_sub_cancel, hex]; exact hz2
        · --
          refine v_iload_n aX8_lineBy_88 rfl ?_
          refine v_if_ne 102 rfl aX8_lineBy_89 (by omega) (fun c89 => ?_) (fun c89 => ?_)
          · --
            refine v_iload aX8_lineBy_102 rfl ?_
            refine v_iload aX8_lineBy_104 rfl ?_
            refine v_icmp_le 117 rfl aX8_lineBy_106 (by omega) (by omega) (fun c106 => ?_) (fun c106 => ?_)
            · --
              refine v_iinc aX8_lineBy_117 rfl (by decide) rfl ?_
              refine v_goto 58 rfl aX8_lineBy_120 ?_
              have hp0 : 0 < i' := by rcases h4 with y | y <;> omega
              have h5 := (h4.resolve_left (by omega)).2
              have e1 : i' = i' - 1 + 1 := by omega
              have hex : exN wh (μ0 (m + 7)) n i' = exN wh (μ0 (m + 7)) n (i' - 1) := by
                have h6 := exN_keep (wh := wh) (T := μ0 (m + 7)) (n := n) (j := i' - 1) (fun e => by rw [← e1, ← h5.2]; omega) (fun e => by rw [← e1, ← h5.2]; omega)
                rw [← e1] at h6
                exact h6
              refine ih (c + 1) fo be μ2 [vi _] (by omega) (by omega) ⟨i' + 1, by omega, Or.inr (by rw [Nat.add_sub_cancel]; omega), fun y => ?_, Or.inr ⟨by omega, ?_, ?_⟩⟩ fr2
              · have := (ln_next hn y).1; omega
              · rw [Nat.add_sub_cancel, hex]; exact h5.1
              · rw [Nat.add_sub_cancel, hex]; exact h5.2
            · --
              refine v_iload aX8_lineBy_109 rfl ?_
              refine v_istore aX8_lineBy_111 (by decide) rfl ?_
              refine v_iload aX8_lineBy_113 rfl ?_
              refine v_istore aX8_lineBy_115 (by decide) rfl ?_
              refine v_iinc aX8_lineBy_117 rfl (by decide) rfl ?_
              refine v_goto 58 rfl aX8_lineBy_120 ?_
              have hex : exN wh (μ0 (m + 7)) n i' = (i', opl (μ0 (m + 7)) (lnI n i') n) := by
                by_cases y : i' = 0
                · rw [y]; rfl
                · have e1 : i' = i' - 1 + 1 := by omega
                  have h5 := h4.resolve_left (by omega)
                  rw [e1]
                  refine exN_take (fun e => ?_) (fun e => ?_) <;> (rw [← e1, ← h5.2.2]; omega)
              refine ih (c + 1) c z2 μ2 [vi _] (by omega) (by omega) ⟨i' + 1, by omega, Or.inr (by rw [Nat.add_sub_cancel]; omega), fun y => ?_, Or.inr ⟨by omega, ?_, ?_⟩⟩ fr2
              · have := (ln_next hn y).1; omega
              · rw [Nat.add_sub_cancel, hex]; exact i1'.symm
              · rw [Nat.add_sub_cancel, hex]; exact hz2
          · --
            refine v_iload aX8_lineBy_92 rfl ?_
            refine v_iload aX8_lineBy_94 rfl ?_
            refine v_icmp_ge 117 rfl aX8_lineBy_96 (by omega) (by omega) (fun c96 => ?_) (fun c96 => ?_)
            · --
              refine v_iinc aX8_lineBy_117 rfl (by decide) rfl ?_
              refine v_goto 58 rfl aX8_lineBy_120 ?_
              have hp0 : 0 < i' := by rcases h4 with y | y <;> omega
              have h5 := (h4.resolve_left (by omega)).2
              have e1 : i' = i' - 1 + 1 := by omega
              have hex : exN wh (μ0 (m + 7)) n i' = exN wh (μ0 (m + 7)) n (i' - 1) := by
                have h6 := exN_keep (wh := wh) (T := μ0 (m + 7)) (n := n) (j := i' - 1) (fun e => by rw [← e1, ← h5.2]; omega) (fun e => by rw [← e1, ← h5.2]; omega)
                rw [← e1] at h6
                exact h6
              refine ih (c + 1) fo be μ2 [vi _] (by omega) (by omega) ⟨i' + 1, by omega, Or.inr (by rw [Nat.add_sub_cancel]; omega), fun y => ?_, Or.inr ⟨by omega, ?_, ?_⟩⟩ fr2
              · have := (ln_next hn y).1; omega
              · rw [Nat.add_sub_cancel, hex]; exact h5.1
              · rw [Nat.add_sub_cancel, hex]; exact h5.2
            · --
              refine v_goto 109 rfl aX8_lineBy_99 ?_
              refine v_iload aX8_lineBy_109 rfl ?_
              refine v_istore aX8_lineBy_111 (by decide) rfl ?_
              refine v_iload aX8_lineBy_113 rfl ?_
              refine v_istore aX8_lineBy_115 (by decide) rfl ?_
              refine v_iinc aX8_lineBy_117 rfl (by decide) rfl ?_
              refine v_goto 58 rfl aX8_lineBy_120 ?_
              have hex : exN wh (μ0 (m + 7)) n i' = (i', opl (μ0 (m + 7)) (lnI n i') n) := by
                by_cases y : i' = 0
                · rw [y]; rfl
                · have e1 : i' = i' - 1 + 1 := by omega
                  have h5 := h4.resolve_left (by omega)
                  rw [e1]
                  refine exN_take (fun e => ?_) (fun e => ?_) <;> (rw [← e1, ← h5.2.2]; omega)
              refine ih (c + 1) c z2 μ2 [vi _] (by omega) (by omega) ⟨i' + 1, by omega, Or.inr (by rw [Nat.add_sub_cancel]; omega), fun y => ?_, Or.inr ⟨by omega, ?_, ?_⟩⟩ fr2
              · have := (ln_next hn y).1; omega
              · rw [Nat.add_sub_cancel, hex]; exact i1'.symm
              · rw [Nat.add_sub_cancel, hex]; exact hz2
set_option maxHeartbeats 4000000 in
set_option maxRecDepth 100000 in
theorem l1_X8_lineBy {μ0 : Mu} {wh wa : Int} {P : Pst} (hM : ModS S m) (hn : 2 ≤ n ∧ n ≤ 6) (hlen : μ0 m 0 = n) (hwh : 0 ≤ wh ∧ wh ≤ 1) (hwa : 0 ≤ wa ∧ wa ≤ 1) (hT : ∀ i : Int, 0 ≤ i → i < 6 → 0 ≤ (μ0 (m + 7)) i ∧ (μ0 (m + 7)) i ≤ 99) (hh : ∀ L : List Value, V l G cX8_lineBy (yX8_lineBy, 9, (some FieldType.int), 3, 0, 0) P (0, 0) S μ0 48 ([.ref m, vi wh, vi wa, vi ((n.toNat ^ n.toNat : Nat) : Int)] ++ L) []) : ∀ (N : Nat) (i z : Int), (0 ≤ i ∧ i ≤ n) → n - i < N → z = ((n.toNat ^ i.toNat : Nat) : Int) → V l G cX8_lineBy (yX8_lineBy, 9, (some FieldType.int), 3, 0, 0) P (0, 0) S μ0 26 [.ref m, vi wh, vi wa, vi z, vi i] [] := by
  intro N
  induction N with
  | zero => intros; omega
  | succ N ih =>
    intro i z h0 h1 hz
    refine v_iload aX8_lineBy_26 rfl ?_
    refine v_aload_n aX8_lineBy_28 rfl ?_
    refine v_gi 0 rfl aX8_lineBy_29 fX8_7 hM.p rfl rfl ?_
    rw [hlen]
    refine v_icmp_ge 48 rfl aX8_lineBy_32 (by omega) (by omega) (fun c32 => ?_) (fun c32 => ?_)
    · --
      obtain rfl : i = n := by omega
      rw [hz]
      exact hh [vi _]
    · --
      refine v_iload_n aX8_lineBy_35 rfl ?_
      refine v_aload_n aX8_lineBy_36 rfl ?_
      refine v_gi 0 rfl aX8_lineBy_37 fX8_7 hM.p rfl rfl ?_
      rw [hlen]
      refine v_imul aX8_lineBy_40 ?_
      refine v_istore_n aX8_lineBy_41 (by decide) rfl ?_
      refine v_iinc aX8_lineBy_42 rfl (by decide) rfl ?_
      refine v_goto 26 rfl aX8_lineBy_45 ?_
      refine ih (i + 1) _ (by omega) (by omega) ?_
      rw [show (i + 1).toNat = i.toNat + 1 by omega, Nat.pow_succ, Int.natCast_mul, hz, show ((n.toNat : Nat) : Int) = n by omega]
set_option maxHeartbeats 4000000 in
set_option maxRecDepth 100000 in
theorem c0_X8_lineBy {μ0 : Mu} {wh wa : Int} (hM : ModS S m) (hn : 2 ≤ n ∧ n ≤ 6) (hlen : μ0 m 0 = n) (hwh : 0 ≤ wh ∧ wh ≤ 1) (hwa : 0 ≤ wa ∧ wa ≤ 1) (hT : ∀ i : Int, 0 ≤ i → i < 6 → 0 ≤ (μ0 (m + 7)) i ∧ (μ0 (m + 7)) i ≤ 99) : Ct l G cX8_lineBy (yX8_lineBy, 9, (some FieldType.int), 3, 0, 0) [.ref m, vi wh, vi wa] S μ0 (Re S (fun z μ' => z = (if wa = 0 then num10 (lnI n (exN wh (μ0 (m + 7)) n (fcI n - 1)).1) n.toNat else (exN wh (μ0 (m + 7)) n (fcI n - 1)).2) ∧ (∀ q : Nat, q ≠ m + 8 → q ≠ m + 9 → q ≠ m + 19 → μ' q = μ0 q))) := by
  have hp3 : 0 < n.toNat ^ n.toNat := Nat.pow_pos (by omega)
  have hfc := fc_r (n := n.toNat) (by omega)
  have hfc : 2 ≤ fcI n ∧ fcI n ≤ 720 := hfc
  refine Ct.of (by decide) rfl (by simp [vi, Value.category]) (Nat.le_of_ble_eq_true rfl) ?_
  refine v_iload_n aX8_lineBy_0 rfl ?_
  refine v_iconst aX8_lineBy_1 ?_
  refine v_iconst aX8_lineBy_2 ?_
  refine v_cSi (c_X8_in (by omega) (by decide) (by decide)) aX8_lineBy_3 mX8_in sX8_in lX8_79 rfl rfl (Nat.le_of_ble_eq_true rfl) ⟨Nat.le_of_ble_eq_true rfl, Nat.le_of_ble_eq_true rfl⟩ (Nat.le_of_ble_eq_true rfl) ?_
  refine v_if_eq_b 18 rfl aX8_lineBy_6 (fun c6 => ?_) (fun c6 => ?_)
  · omega
  · --
    refine v_iload_n aX8_lineBy_9 rfl ?_
    refine v_iconst aX8_lineBy_10 ?_
    refine v_iconst aX8_lineBy_11 ?_
    refine v_cSi (c_X8_in (by omega) (by decide) (by decide)) aX8_lineBy_12 mX8_in sX8_in lX8_79 rfl rfl (Nat.le_of_ble_eq_true rfl) ⟨Nat.le_of_ble_eq_true rfl, Nat.le_of_ble_eq_true rfl⟩ (Nat.le_of_ble_eq_true rfl) ?_
    refine v_if_ne_b 21 rfl aX8_lineBy_15 (fun c15 => ?_) (fun c15 => ?_)
    · --
      refine v_iconst aX8_lineBy_21 ?_
      refine v_istore_n aX8_lineBy_22 (by decide) rfl ?_
      refine v_iconst aX8_lineBy_23 ?_
      refine v_istore aX8_lineBy_24 (by decide) rfl ?_
      refine l1_X8_lineBy hM hn hlen hwh hwa hT (fun L => ?_) 7 0 1 (by omega) (by omega) (by rw [show (0 : Int).toNat = 0 from rfl, Nat.pow_zero]; rfl)
      refine v_take 4 rfl ?_
      show V _ _ _ _ _ _ _ _ _ [.ref m, vi wh, vi wa, vi _] _
      refine v_bipush (by decide) aX8_lineBy_48 ?_
      refine v_istore aX8_lineBy_50 (by decide) rfl ?_
      refine v_iconst aX8_lineBy_52 ?_
      refine v_istore aX8_lineBy_53 (by decide) rfl ?_
      refine v_iconst aX8_lineBy_55 ?_
      refine v_istore aX8_lineBy_56 (by decide) rfl ?_
      exact lo_X8_lineBy hM hn hlen hwh hwa hT rfl 46657 0 (-6) 0 μ0 [] (by omega) (by have := nn_r (n := n.toNat) (by omega); omega) ⟨0, by omega, Or.inl rfl, fun _ => by omega, Or.inl ⟨rfl, rfl, rfl⟩⟩ (fun q _ _ _ => rfl)
    · omega
set_option maxHeartbeats 4000000 in
set_option maxRecDepth 100000 in
theorem c_X8_lineBy {wh wa : Int} (hM : ModS S m) (h : MoAt μ m t g n) (hok : StOk t B) (hwh : (-2147483648 ≤ wh ∧ wh < 2147483648)) (hwa : (-2147483648 ≤ wa ∧ wa < 2147483648)) : Ct l G cX8_lineBy (yX8_lineBy, 9, (some FieldType.int), 3, 0, 0) [.ref m, vi wh, vi wa] S μ (Re S (fun z μ' => z = sp_lineBy t wh wa ∧ MoAt μ' m t g n ∧ Out μ μ' m 20)) := by
  obtain ⟨o1, o2, o3, o4, o5⟩ := id hok
  have f0 : μ m 0 = t.1 := h.1.1
  have hfc := fc_r (n := t.1.toNat) (by omega)
  have hfc : 2 ≤ fcI t.1 ∧ fcI t.1 ≤ 720 := hfc
  by_cases q : (0 ≤ wh ∧ wh ≤ 1) ∧ 0 ≤ wa ∧ wa ≤ 1
  · have hTT : ∀ i : Int, 0 ≤ i → i < 6 → 0 ≤ μ (m + 7) i ∧ μ (m + 7) i ≤ 99 := fun i i0 i1 => by rw [h.1.2.2.2.2.2.2.2.2 i i0 i1]; exact (o5 i i0 i1).2.2.2
    refine (c0_X8_lineBy hM o1 f0 q.1 q.2 hTT).mono ?_
    rintro r S1 μ1 ⟨z, e1, e2, e3, hk⟩
    refine ⟨z, e1, e2, ?_, h.kp (fun i _ => by rw [hk m (by omega) (by omega) (by omega)]) (fun q q0 q1 => hk q (by omega) (by omega) (by omega)), fun q hq => hk q (by omega) (by omega) (by omega)⟩
    have hex : exN wh (μ (m + 7)) t.1 (fcI t.1 - 1) = exN wh t.2.2.2.2.2.2.2.2 t.1 (fcI t.1 - 1) := exN_c o1 (fun i i0 i1 => (h.1.2.2.2.2.2.2.2.2 i i0 i1).symm) _ (by omega)
    rw [e3, hex]
    exact (if_pos q).symm
  · refine Ct.of (by decide) rfl (by simp [vi, Value.category]) (Nat.le_of_ble_eq_true rfl) ?_
    refine v_iload_n aX8_lineBy_0 rfl ?_
    refine v_iconst aX8_lineBy_1 ?_
    refine v_iconst aX8_lineBy_2 ?_
    refine v_cSi (c_X8_in (by omega) (by decide) (by decide)) aX8_lineBy_3 mX8_in sX8_in lX8_79 rfl rfl (Nat.le_of_ble_eq_true rfl) ⟨Nat.le_of_ble_eq_true rfl, Nat.le_of_ble_eq_true rfl⟩ (Nat.le_of_ble_eq_true rfl) ?_
    refine v_if_eq_b 18 rfl aX8_lineBy_6 (fun c6 => ?_) (fun c6 => ?_)
    · --
      refine v_bipush (by decide) aX8_lineBy_18 ?_
      refine v_ireturn aX8_lineBy_20 rfl ⟨Nat.le_refl _, Nat.le_refl _⟩ ?_
      rw [show sp_lineBy t wh wa = -2 from if_neg q]
      exact ⟨_, rfl, rfl, rfl, h, Out.rf⟩
    · --
      refine v_iload_n aX8_lineBy_9 rfl ?_
      refine v_iconst aX8_lineBy_10 ?_
      refine v_iconst aX8_lineBy_11 ?_
      refine v_cSi (c_X8_in (by omega) (by decide) (by decide)) aX8_lineBy_12 mX8_in sX8_in lX8_79 rfl rfl (Nat.le_of_ble_eq_true rfl) ⟨Nat.le_of_ble_eq_true rfl, Nat.le_of_ble_eq_true rfl⟩ (Nat.le_of_ble_eq_true rfl) ?_
      refine v_if_ne_b 21 rfl aX8_lineBy_15 (fun c15 => ?_) (fun c15 => ?_)
      · omega
      · --
        refine v_bipush (by decide) aX8_lineBy_18 ?_
        refine v_ireturn aX8_lineBy_20 rfl ⟨Nat.le_refl _, Nat.le_refl _⟩ ?_
        rw [show sp_lineBy t wh wa = -2 from if_neg q]
        exact ⟨_, rfl, rfl, rfl, h, Out.rf⟩
end LB4
