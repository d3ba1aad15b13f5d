/-! the plain calls of the class -/
section LS1
variable {l : Launch} {G : Glb} {S : Sh} {μ : Mu} {x : Nat} {im pl : Nat → Option Nat} {t : BSt} {g : Int → Int} {n : Int}
set_option maxHeartbeats 4000000 in
set_option maxRecDepth 100000 in
theorem c_X7_sacks {a : Int} (hX : LsS S x im pl) (h : LsAt μ x t g n) (ha : (-2147483648 ≤ a ∧ a < 2147483648)) : Ct l G cX7_sacks (yX7_sacks, 3, (some FieldType.int), 1, 0, 0) [.ref x, vi a] S μ (Re S (fun z μ' => z = (sp_sacks t a).1 ∧ LsAt μ' x (sp_sacks t a).2 g n ∧ Out μ μ' x 33)) := by
  have f6 : μ (x + 3) 6 = t.1 := h.1.1
  have f7 : μ (x + 3) 7 = t.2.1 := h.1.2.1
  have f8 : μ (x + 3) 8 = t.2.2.1 := h.1.2.2.1
  have f1 : μ (x + 1) 1 = n := h.2.2
  have fg : μ (x + 1 + 1) = g := h.2.1
  refine Ct.of (by decide) rfl (by simp [vi, Value.category]) (Nat.le_of_ble_eq_true rfl) ?_
  refine v_iload_n aX7_sacks_0 rfl ?_
  refine v_iconst aX7_sacks_1 ?_
  refine v_icmp_lt 11 rfl aX7_sacks_2 (by omega) (by omega) (fun c2 => ?_) (fun c2 => ?_)
  · --
    refine v_bipush (by decide) aX7_sacks_11 ?_
    refine v_ireturn aX7_sacks_13 rfl ⟨Nat.le_refl _, Nat.le_refl _⟩ ?_
    rw [show sp_sacks t a = (-2, t) from if_neg (by omega)]
    exact ⟨_, rfl, rfl, rfl, h, Out.rf⟩
  · --
    refine v_iload_n aX7_sacks_5 rfl ?_
    refine v_bipush (by decide) aX7_sacks_6 ?_
    refine v_icmp_le 14 rfl aX7_sacks_8 (by omega) (by omega) (fun c8 => ?_) (fun c8 => ?_)
    · --
      refine v_aload_n aX7_sacks_14 rfl ?_
      refine v_getr aX7_sacks_15 fX7_19 hX.p rfl rfl ?_
      refine v_gi 6 rfl aX7_sacks_18 fX7_61 hX.book.p rfl rfl ?_
      rw [f6]
      refine v_istore_n aX7_sacks_21 (by decide) rfl ?_
      refine v_aload_n aX7_sacks_22 rfl ?_
      refine v_getr aX7_sacks_23 fX7_19 hX.p rfl rfl ?_
      refine v_iload_n aX7_sacks_26 rfl ?_
      refine v_cVw (c_X0_beginWith hX.book h.1) aX7_sacks_27 mX0_beginWith vX0_beginWith lX7_65 hX.book.p rfl rfl rfl rfl rfl (Nat.le_of_ble_eq_true rfl) ⟨Nat.le_of_ble_eq_true rfl, Nat.le_of_ble_eq_true rfl⟩ (Nat.le_of_ble_eq_true rfl) (fun μ1 ⟨r1, r2⟩ => ?_)
      refine v_iload_n aX7_sacks_30 rfl ?_
      refine v_ireturn aX7_sacks_31 rfl ⟨Nat.le_refl _, Nat.le_refl _⟩ ?_
      rw [show sp_sacks t a = _ from if_pos (by omega)]
      exact ⟨_, rfl, rfl, rfl, ⟨r1, by rw [r2 _ (by omega)]; exact fg, by rw [r2 _ (by omega)]; exact f1⟩, r2.sub (by omega)⟩
    · --
      refine v_bipush (by decide) aX7_sacks_11 ?_
      refine v_ireturn aX7_sacks_13 rfl ⟨Nat.le_refl _, Nat.le_refl _⟩ ?_
      rw [show sp_sacks t a = (-2, t) from if_neg (by omega)]
      exact ⟨_, rfl, rfl, rfl, h, Out.rf⟩
set_option maxHeartbeats 4000000 in
set_option maxRecDepth 100000 in
theorem c_X7_say {a : Int} (hX : LsS S x im pl) (h : LsAt μ x t g n) (ha : (-2147483648 ≤ a ∧ a < 2147483648)) (hp : PadOk g n) : Ct l G cX7_say (yX7_say, 2, (some FieldType.int), 1, 0, 0) [.ref x, vi a] S μ (Re S (fun z μ' => z = (sp_say g n a).1 ∧ LsAt μ' x t (sp_say g n a).2.1 (sp_say g n a).2.2 ∧ Out μ μ' x 33)) := by
  have f6 : μ (x + 3) 6 = t.1 := h.1.1
  have f7 : μ (x + 3) 7 = t.2.1 := h.1.2.1
  have f8 : μ (x + 3) 8 = t.2.2.1 := h.1.2.2.1
  have f1 : μ (x + 1) 1 = n := h.2.2
  have fg : μ (x + 1 + 1) = g := h.2.1
  have hn := hp.1
  refine Ct.of (by decide) rfl (by simp [vi, Value.category]) (Nat.le_of_ble_eq_true rfl) ?_
  refine v_iload_n aX7_say_0 rfl ?_
  refine v_bipush (by decide) aX7_say_1 ?_
  refine v_icmp_lt 12 rfl aX7_say_3 (by omega) (by omega) (fun c3 => ?_) (fun c3 => ?_)
  · --
    refine v_bipush (by decide) aX7_say_12 ?_
    refine v_ireturn aX7_say_14 rfl ⟨Nat.le_refl _, Nat.le_refl _⟩ ?_
    rw [show sp_say g n a = (-2, g, n) from if_neg (by omega)]
    exact ⟨_, rfl, rfl, rfl, h, Out.rf⟩
  · --
    refine v_iload_n aX7_say_6 rfl ?_
    refine v_bipush (by decide) aX7_say_7 ?_
    refine v_icmp_le 15 rfl aX7_say_9 (by omega) (by omega) (fun c9 => ?_) (fun c9 => ?_)
    · --
      refine v_aload_n aX7_say_15 rfl ?_
      refine v_getr aX7_say_16 fX7_10 hX.p rfl rfl ?_
      refine v_gi 1 rfl aX7_say_19 fX7_69 hX.pad.p rfl rfl ?_
      rw [f1]
      refine v_bipush (by decide) aX7_say_22 ?_
      refine v_icmp_lt 30 rfl aX7_say_24 (by omega) (by omega) (fun c24 => ?_) (fun c24 => ?_)
      · --
        refine v_aload_n aX7_say_30 rfl ?_
        refine v_getr aX7_say_31 fX7_10 hX.p rfl rfl ?_
        refine v_iload_n aX7_say_34 rfl ?_
        refine v_cVv (c_X2_put hX.pad (by omega)) aX7_say_35 mX2_put vX2_put lX7_72 hX.pad.p rfl rfl rfl rfl rfl (Nat.le_of_ble_eq_true rfl) ⟨Nat.le_of_ble_eq_true rfl, Nat.le_of_ble_eq_true rfl⟩ (Nat.le_of_ble_eq_true rfl) ?_
        refine v_aload_n aX7_say_38 rfl ?_
        refine v_getr aX7_say_39 fX7_10 hX.p rfl rfl ?_
        refine v_gi 1 rfl aX7_say_42 fX7_69 hX.pad.p rfl rfl ?_
        rw [upd2_same, f1]
        refine v_ireturn aX7_say_45 rfl ⟨Nat.le_refl _, Nat.le_refl _⟩ ?_
        rw [show sp_say g n a = (n + 1, iup g n a, n + 1) from by unfold sp_say; rw [if_pos (by omega), if_neg (by omega)]]
        exact ⟨_, rfl, rfl, rfl, (h.set_g).set_sz, (Out.upd (by omega)).trans (Out.upd (by omega))⟩
      · --
        refine v_bipush (by decide) aX7_say_27 ?_
        refine v_ireturn aX7_say_29 rfl ⟨Nat.le_refl _, Nat.le_refl _⟩ ?_
        rw [show sp_say g n a = (-4, g, n) from by unfold sp_say; rw [if_pos (by omega), if_pos (by omega)]]
        exact ⟨_, rfl, rfl, rfl, h, Out.rf⟩
    · --
      refine v_bipush (by decide) aX7_say_12 ?_
      refine v_ireturn aX7_say_14 rfl ⟨Nat.le_refl _, Nat.le_refl _⟩ ?_
      rw [show sp_say g n a = (-2, g, n) from if_neg (by omega)]
      exact ⟨_, rfl, rfl, rfl, h, Out.rf⟩
set_option maxHeartbeats 4000000 in
set_option maxRecDepth 100000 in
theorem c_X7_wipe (hX : LsS S x im pl) (h : LsAt μ x t g n) : Ct l G cX7_wipe (yX7_wipe, 2, (some FieldType.int), 1, 0, 0) [.ref x] S μ (Re S (fun z μ' => z = n ∧ LsAt μ' x t g 0 ∧ Out μ μ' x 33)) := by
  have f6 : μ (x + 3) 6 = t.1 := h.1.1
  have f7 : μ (x + 3) 7 = t.2.1 := h.1.2.1
  have f8 : μ (x + 3) 8 = t.2.2.1 := h.1.2.2.1
  have f1 : μ (x + 1) 1 = n := h.2.2
  have fg : μ (x + 1 + 1) = g := h.2.1
  refine Ct.of (by decide) rfl (by simp [vi, Value.category]) (Nat.le_of_ble_eq_true rfl) ?_
  refine v_aload_n aX7_wipe_0 rfl ?_
  refine v_getr aX7_wipe_1 fX7_10 hX.p rfl rfl ?_
  refine v_gi 1 rfl aX7_wipe_4 fX7_69 hX.pad.p rfl rfl ?_
  rw [f1]
  refine v_istore_n aX7_wipe_7 (by decide) rfl ?_
  refine v_aload_n aX7_wipe_8 rfl ?_
  refine v_getr aX7_wipe_9 fX7_10 hX.p rfl rfl ?_
  refine v_cVv (c_X2_clear hX.pad) aX7_wipe_12 mX2_clear vX2_clear lX7_75 hX.pad.p rfl rfl rfl rfl rfl (Nat.le_of_ble_eq_true rfl) ⟨Nat.le_of_ble_eq_true rfl, Nat.le_of_ble_eq_true rfl⟩ (Nat.le_of_ble_eq_true rfl) ?_
  refine v_iload_n aX7_wipe_15 rfl ?_
  refine v_ireturn aX7_wipe_16 rfl ⟨Nat.le_refl _, Nat.le_refl _⟩ ?_
  exact ⟨_, rfl, rfl, rfl, h.set_sz, Out.upd (by omega)⟩
set_option maxHeartbeats 4000000 in
set_option maxRecDepth 100000 in
theorem c_X7_fault (hX : LsS S x im pl) (h : LsAt μ x t g n) (ht : 2 ≤ t.1 ∧ t.1 ≤ 6) (hp : PadOk g n) : Ct l G cX7_fault (yX7_fault, 1, (some FieldType.int), 2, 0, 0) [.ref x] S μ (Re S (fun z μ' => z = sp_fault t g n ∧ LsAt μ' x t g n ∧ Out μ μ' x 33)) := by
  have f6 : μ (x + 3) 6 = t.1 := h.1.1
  have f7 : μ (x + 3) 7 = t.2.1 := h.1.2.1
  have f8 : μ (x + 3) 8 = t.2.2.1 := h.1.2.2.1
  have f1 : μ (x + 1) 1 = n := h.2.2
  have fg : μ (x + 1 + 1) = g := h.2.1
  refine Ct.of (by decide) rfl (by simp [vi, Value.category]) (Nat.le_of_ble_eq_true rfl) ?_
  refine v_aload_n aX7_fault_0 rfl ?_
  refine v_getr aX7_fault_1 fX7_10 hX.p rfl rfl ?_
  refine v_aload_n aX7_fault_4 rfl ?_
  refine v_getr aX7_fault_5 fX7_19 hX.p rfl rfl ?_
  refine v_gi 6 rfl aX7_fault_8 fX7_61 hX.book.p rfl rfl ?_
  rw [f6]
  refine v_cVi (c_X2_firstFault hX.pad (by rw [f1]; exact hp.1) (by omega) (by rw [fg]; exact hp.2)) aX7_fault_11 mX2_firstFault vX2_firstFault lX7_78 hX.pad.p rfl rfl rfl rfl rfl (Nat.le_of_ble_eq_true rfl) ⟨Nat.le_of_ble_eq_true rfl, Nat.le_of_ble_eq_true rfl⟩ (Nat.le_of_ble_eq_true rfl) ?_
  refine v_ireturn aX7_fault_14 rfl ⟨Nat.le_refl _, Nat.le_refl _⟩ ?_
  rw [fg, f1]
  exact ⟨_, rfl, rfl, rfl, h, Out.rf⟩
set_option maxHeartbeats 4000000 in
set_option maxRecDepth 100000 in
theorem c_X7_line (hX : LsS S x im pl) (h : LsAt μ x t g n) (ht : 2 ≤ t.1 ∧ t.1 ≤ 6) (hc : 0 ≤ t.2.1 ∧ t.2.1 ≤ 12) (hp : PadOk g n) (hF : ¬ 0 ≤ sp_fault t g n → LineOk g n ∧ sp_fault t g n = -6) (hr : -2147483648 ≤ sp_fault t g n ∧ sp_fault t g n < 2147483648) : Ct l G cX7_line (yX7_line, 1, (some FieldType.int), 2, 0, 0) [.ref x] S μ (Re S (fun z μ' => z = (sp_line t g n).1 ∧ LsAt μ' x (sp_line t g n).2.1 g (sp_line t g n).2.2 ∧ Out μ μ' x 33)) := by
  have f6 : μ (x + 3) 6 = t.1 := h.1.1
  have f7 : μ (x + 3) 7 = t.2.1 := h.1.2.1
  have f8 : μ (x + 3) 8 = t.2.2.1 := h.1.2.2.1
  have f1 : μ (x + 1) 1 = n := h.2.2
  have fg : μ (x + 1 + 1) = g := h.2.1
  obtain ⟨hn, hgr⟩ := id hp
  refine Ct.of (by decide) rfl (by simp [vi, Value.category]) (Nat.le_of_ble_eq_true rfl) ?_
  refine v_aload_n aX7_line_0 rfl ?_
  refine v_getr aX7_line_1 fX7_10 hX.p rfl rfl ?_
  refine v_aload_n aX7_line_4 rfl ?_
  refine v_getr aX7_line_5 fX7_19 hX.p rfl rfl ?_
  refine v_gi 6 rfl aX7_line_8 fX7_61 hX.book.p rfl rfl ?_
  rw [f6]
  refine v_cVi (c_X2_firstFault hX.pad (by rw [f1]; exact hp.1) (by omega) (by rw [fg]; exact hp.2)) aX7_line_11 mX2_firstFault vX2_firstFault lX7_78 hX.pad.p rfl rfl rfl rfl rfl (Nat.le_of_ble_eq_true rfl) ⟨Nat.le_of_ble_eq_true rfl, Nat.le_of_ble_eq_true rfl⟩ (Nat.le_of_ble_eq_true rfl) ?_
  rw [show ffd (μ (x + 1 + 1)) t.1 (μ (x + 1) 1) 41 0 = sp_fault t g n by rw [fg, f1]; rfl]
  refine v_bipush (by decide) aX7_line_14 ?_
  refine v_icmp_eq 22 rfl aX7_line_16 (by omega) (by omega) (fun c16 => ?_) (fun c16 => ?_)
  · --
    obtain ⟨q1, q3⟩ := hF (by omega)
    refine v_aload_n aX7_line_22 rfl ?_
    refine v_getr aX7_line_23 fX7_19 hX.p rfl rfl ?_
    refine v_gi 7 rfl aX7_line_26 fX7_82 hX.book.p rfl rfl ?_
    rw [f7]
    refine v_aload_n aX7_line_29 rfl ?_
    refine v_getr aX7_line_30 fX7_10 hX.p rfl rfl ?_
    refine v_gi 1 rfl aX7_line_33 fX7_69 hX.pad.p rfl rfl ?_
    rw [f1]
    refine v_iconst aX7_line_36 ?_
    refine v_idiv (by omega) (by omega) aX7_line_37 ?_
    refine v_iadd aX7_line_38 ?_
    refine v_bipush (by decide) aX7_line_39 ?_
    refine v_icmp_le 47 rfl aX7_line_41 (by omega) (by omega) (fun c41 => ?_) (fun c41 => ?_)
    · --
      refine v_aload_n aX7_line_47 rfl ?_
      refine v_getr aX7_line_48 fX7_19 hX.p rfl rfl ?_
      refine v_aload_n aX7_line_51 rfl ?_
      refine v_getr aX7_line_52 fX7_10 hX.p rfl rfl ?_
      refine v_cVw (c_X0_write (K := t.2.2.2.1) (L := t.2.2.2.2.1) hX.book hX.pad (by omega) (by rw [fg, f1]; exact q1) (by rw [f7, f1]; omega) h.1.2.2.2.1 h.1.2.2.2.2.1) aX7_line_55 mX0_write vX0_write lX7_85 hX.book.p rfl rfl rfl rfl rfl (Nat.le_of_ble_eq_true rfl) ⟨Nat.le_of_ble_eq_true rfl, Nat.le_of_ble_eq_true rfl⟩ (Nat.le_of_ble_eq_true rfl) (fun μ1 hw => ?_)
      refine v_aload_n aX7_line_58 rfl ?_
      refine v_getr aX7_line_59 fX7_10 hX.p rfl rfl ?_
      refine v_cVv (c_X2_clear hX.pad) aX7_line_62 mX2_clear vX2_clear lX7_75 hX.pad.p rfl rfl rfl rfl rfl (Nat.le_of_ble_eq_true rfl) ⟨Nat.le_of_ble_eq_true rfl, Nat.le_of_ble_eq_true rfl⟩ (Nat.le_of_ble_eq_true rfl) ?_
      refine v_aload_n aX7_line_65 rfl ?_
      refine v_getr aX7_line_66 fX7_19 hX.p rfl rfl ?_
      refine v_gi 7 rfl aX7_line_69 fX7_82 hX.book.p rfl rfl ?_
      refine v_ireturn aX7_line_72 rfl ⟨Nat.le_refl _, Nat.le_refl _⟩ ?_
      rw [fg, f1, f7] at hw
      obtain ⟨w1, w2, w3, w4⟩ := hw
      refine ⟨_, rfl, rfl, ?_, ?_, ?_⟩
      · unfold sp_line
        rw [if_neg (by omega), if_neg (by omega), upd2_row (by omega), w3, iup_same]
        rfl
      · unfold sp_line
        rw [if_neg (by omega), if_neg (by omega)]
        obtain ⟨⟨t1, t2, t3, t4, t5, t6, t7, t8, t9⟩, tg, tn⟩ := h
        refine LsAt.set_sz (n := n) ⟨⟨?_, ?_, ?_, w1, w2, ?_, ?_, ?_, ?_⟩, ?_, ?_⟩
        · rw [w3, iup_ne (by decide)]; exact t1
        · rw [w3, iup_same]; rfl
        · rw [w3, iup_ne (by decide)]; exact t3
        · rw [w4 _ (by omega) (by omega)]; exact t6
        · rw [w4 _ (by omega) (by omega)]; exact t7
        · rw [w4 _ (by omega) (by omega)]; exact t8
        · rw [w4 _ (by omega) (by omega)]; exact t9
        · rw [w4 _ (by omega) (by omega)]; exact tg
        · rw [w4 _ (by omega) (by omega)]; exact tn
      · intro q hq
        rw [upd2_row (by omega), w4 q (by omega) (by omega)]
    · --
      refine v_bipush (by decide) aX7_line_44 ?_
      refine v_ireturn aX7_line_46 rfl ⟨Nat.le_refl _, Nat.le_refl _⟩ ?_
      rw [show sp_line t g n = (-4, t, n) from by unfold sp_line; rw [if_neg (by omega), if_pos (by omega)]]
      exact ⟨_, rfl, rfl, rfl, h, Out.rf⟩
  · --
    refine v_bipush (by decide) aX7_line_19 ?_
    refine v_ireturn aX7_line_21 rfl ⟨Nat.le_refl _, Nat.le_refl _⟩ ?_
    rw [show sp_line t g n = (-5, t, n) from if_pos (by by_cases q : 0 ≤ sp_fault t g n; exact q; exact absurd (hF q).2 c16)]
    exact ⟨_, rfl, rfl, rfl, h, Out.rf⟩
set_option maxHeartbeats 4000000 in
set_option maxRecDepth 100000 in
theorem c_X7_strike (hX : LsS S x im pl) (h : LsAt μ x t g n) (hc : 0 ≤ t.2.1 ∧ t.2.1 ≤ 12) : Ct l G cX7_strike (yX7_strike, 1, (some FieldType.int), 0, 0, 0) [.ref x] S μ (Re S (fun z μ' => z = (sp_strike t).1 ∧ LsAt μ' x (sp_strike t).2 g n ∧ Out μ μ' x 33)) := by
  have f6 : μ (x + 3) 6 = t.1 := h.1.1
  have f7 : μ (x + 3) 7 = t.2.1 := h.1.2.1
  have f8 : μ (x + 3) 8 = t.2.2.1 := h.1.2.2.1
  have f1 : μ (x + 1) 1 = n := h.2.2
  have fg : μ (x + 1 + 1) = g := h.2.1
  refine Ct.of (by decide) rfl (by simp [vi, Value.category]) (Nat.le_of_ble_eq_true rfl) ?_
  refine v_aload_n aX7_strike_0 rfl ?_
  refine v_getr aX7_strike_1 fX7_19 hX.p rfl rfl ?_
  refine v_gi 7 rfl aX7_strike_4 fX7_82 hX.book.p rfl rfl ?_
  rw [f7]
  refine v_if_ne 13 rfl aX7_strike_7 (by omega) (fun c7 => ?_) (fun c7 => ?_)
  · --
    refine v_aload_n aX7_strike_13 rfl ?_
    refine v_getr aX7_strike_14 fX7_19 hX.p rfl rfl ?_
    refine v_dup rfl aX7_strike_17 ?_
    refine v_gi 7 rfl aX7_strike_18 fX7_82 hX.book.p rfl rfl ?_
    rw [f7]
    refine v_iconst aX7_strike_21 ?_
    refine v_isub aX7_strike_22 ?_
    refine v_pi 7 rfl aX7_strike_23 fX7_82 nf0_7 ok0_7 hX.book.p rfl rfl ?_
    refine v_aload_n aX7_strike_26 rfl ?_
    refine v_getr aX7_strike_27 fX7_19 hX.p rfl rfl ?_
    refine v_gi 7 rfl aX7_strike_30 fX7_82 hX.book.p rfl rfl ?_
    rw [upd2_same]
    refine v_ireturn aX7_strike_33 rfl ⟨Nat.le_refl _, Nat.le_refl _⟩ ?_
    unfold sp_strike
    rw [if_neg (by omega)]
    exact ⟨_, rfl, rfl, rfl, h.set_c, Out.upd (by omega)⟩
  · --
    refine v_bipush (by decide) aX7_strike_10 ?_
    refine v_ireturn aX7_strike_12 rfl ⟨Nat.le_refl _, Nat.le_refl _⟩ ?_
    rw [show sp_strike t = (-5, t) from if_pos (by omega)]
    exact ⟨_, rfl, rfl, rfl, h, Out.rf⟩
set_option maxHeartbeats 4000000 in
set_option maxRecDepth 100000 in
theorem c_X7_saying {i w : Int} (hX : LsS S x im pl) (h : LsAt μ x t g n) (hi : (-2147483648 ≤ i ∧ i < 2147483648)) (hw : (-2147483648 ≤ w ∧ w < 2147483648)) (hc : 0 ≤ t.2.1 ∧ t.2.1 ≤ 12) : Ct l G cX7_saying (yX7_saying, 3, (some FieldType.int), 0, 0, 0) [.ref x, vi i, vi w] S μ (Re S (fun z μ' => z = sp_saying t i w ∧ LsAt μ' x t g n ∧ Out μ μ' x 33)) := by
  have f6 : μ (x + 3) 6 = t.1 := h.1.1
  have f7 : μ (x + 3) 7 = t.2.1 := h.1.2.1
  have f8 : μ (x + 3) 8 = t.2.2.1 := h.1.2.2.1
  have f1 : μ (x + 1) 1 = n := h.2.2
  have fg : μ (x + 1 + 1) = g := h.2.1
  have hrow : 0 ≤ i → i < 12 → S.2 (x + 3 + 2 + i.toNat) = some (aI 5) := fun h0 h1 => hX.book.p_row i.toNat (by omega)
  refine Ct.of (by decide) rfl (by simp [vi, Value.category]) (Nat.le_of_ble_eq_true rfl) ?_
  refine v_iload_n aX7_saying_0 rfl ?_
  refine v_if_lt 15 rfl aX7_saying_1 (by omega) (fun c1 => ?_) (fun c1 => ?_)
  · --
    refine v_iconst aX7_saying_15 ?_
    refine v_ireturn aX7_saying_16 rfl ⟨Nat.le_refl _, Nat.le_refl _⟩ ?_
    rw [show sp_saying t i w = -1 from if_neg (by omega)]
    exact ⟨_, rfl, rfl, rfl, h, Out.rf⟩
  · --
    refine v_iload_n aX7_saying_4 rfl ?_
    refine v_aload_n aX7_saying_5 rfl ?_
    refine v_getr aX7_saying_6 fX7_19 hX.p rfl rfl ?_
    refine v_gi 7 rfl aX7_saying_9 fX7_82 hX.book.p rfl rfl ?_
    rw [f7]
    refine v_icmp_lt 17 rfl aX7_saying_12 (by omega) (by omega) (fun c12 => ?_) (fun c12 => ?_)
    · --
      refine v_iload_n aX7_saying_17 rfl ?_
      refine v_if_lt 26 rfl aX7_saying_18 (by omega) (fun c18 => ?_) (fun c18 => ?_)
      · --
        refine v_bipush (by decide) aX7_saying_26 ?_
        refine v_ireturn aX7_saying_28 rfl ⟨Nat.le_refl _, Nat.le_refl _⟩ ?_
        rw [show sp_saying t i w = -2 from by unfold sp_saying; rw [if_pos (by omega), if_neg (by omega)]]
        exact ⟨_, rfl, rfl, rfl, h, Out.rf⟩
      · --
        refine v_iload_n aX7_saying_21 rfl ?_
        refine v_iconst aX7_saying_22 ?_
        refine v_icmp_lt 29 rfl aX7_saying_23 (by omega) (by omega) (fun c23 => ?_) (fun c23 => ?_)
        · --
          have hrow := hrow (by omega) (by omega)
          refine v_aload_n aX7_saying_29 rfl ?_
          refine v_getr aX7_saying_30 fX7_19 hX.p rfl rfl ?_
          refine v_getr aX7_saying_33 fX7_89 hX.book.p rfl rfl ?_
          refine v_iload_n aX7_saying_36 rfl ?_
          refine v_aaldR (kk := 102) (q := x + 3 + 2 + i.toNat) rfl rfl aX7_saying_37 hX.book.p_sayings (by omega) (by decide) (by simp; omega) ?_
          refine v_iload_n aX7_saying_38 rfl ?_
          refine v_iald aX7_saying_39 hrow (by omega) (by decide) ?_
          refine v_ireturn aX7_saying_40 rfl ⟨Nat.le_refl _, Nat.le_refl _⟩ ?_
          unfold sp_saying
          rw [if_pos (by omega), if_pos (by omega)]
          refine ⟨_, rfl, rfl, ?_, h, Out.rf⟩
          rw [h.1.2.2.2.1 i.toNat (by omega) w (by omega) (by omega)]
          exact congrArg _ (by omega)
        · --
          refine v_bipush (by decide) aX7_saying_26 ?_
          refine v_ireturn aX7_saying_28 rfl ⟨Nat.le_refl _, Nat.le_refl _⟩ ?_
          rw [show sp_saying t i w = -2 from by unfold sp_saying; rw [if_pos (by omega), if_neg (by omega)]]
          exact ⟨_, rfl, rfl, rfl, h, Out.rf⟩
    · --
      refine v_iconst aX7_saying_15 ?_
      refine v_ireturn aX7_saying_16 rfl ⟨Nat.le_refl _, Nat.le_refl _⟩ ?_
      rw [show sp_saying t i w = -1 from if_neg (by omega)]
      exact ⟨_, rfl, rfl, rfl, h, Out.rf⟩
set_option maxHeartbeats 4000000 in
set_option maxRecDepth 100000 in
theorem c_X7_toll {r v : Int} (hX : LsS S x im pl) (h : LsAt μ x t g n) (hr : (-2147483648 ≤ r ∧ r < 2147483648)) (hv : (-2147483648 ≤ v ∧ v < 2147483648)) : Ct l G cX7_toll (yX7_toll, 4, (some FieldType.int), 0, 0, 0) [.ref x, vi r, vi v] S μ (Re S (fun z μ' => z = (sp_toll t r v).1 ∧ LsAt μ' x (sp_toll t r v).2 g n ∧ Out μ μ' x 33)) := by
  have f6 : μ (x + 3) 6 = t.1 := h.1.1
  have f7 : μ (x + 3) 7 = t.2.1 := h.1.2.1
  have f8 : μ (x + 3) 8 = t.2.2.1 := h.1.2.2.1
  have f1 : μ (x + 1) 1 = n := h.2.2
  have fg : μ (x + 1 + 1) = g := h.2.1
  refine Ct.of (by decide) rfl (by simp [vi, Value.category]) (Nat.le_of_ble_eq_true rfl) ?_
  refine v_iload_n aX7_toll_0 rfl ?_
  refine v_if_lt 20 rfl aX7_toll_1 (by omega) (fun c1 => ?_) (fun c1 => ?_)
  · --
    refine v_bipush (by decide) aX7_toll_20 ?_
    refine v_ireturn aX7_toll_22 rfl ⟨Nat.le_refl _, Nat.le_refl _⟩ ?_
    rw [show sp_toll t r v = (-2, t) from if_neg (by omega)]
    exact ⟨_, rfl, rfl, rfl, h, Out.rf⟩
  · --
    refine v_iload_n aX7_toll_4 rfl ?_
    refine v_bipush (by decide) aX7_toll_5 ?_
    refine v_icmp_ge 20 rfl aX7_toll_7 (by omega) (by omega) (fun c7 => ?_) (fun c7 => ?_)
    · --
      refine v_bipush (by decide) aX7_toll_20 ?_
      refine v_ireturn aX7_toll_22 rfl ⟨Nat.le_refl _, Nat.le_refl _⟩ ?_
      rw [show sp_toll t r v = (-2, t) from if_neg (by omega)]
      exact ⟨_, rfl, rfl, rfl, h, Out.rf⟩
    · --
      refine v_iload_n aX7_toll_10 rfl ?_
      refine v_if_lt 20 rfl aX7_toll_11 (by omega) (fun c11 => ?_) (fun c11 => ?_)
      · --
        refine v_bipush (by decide) aX7_toll_20 ?_
        refine v_ireturn aX7_toll_22 rfl ⟨Nat.le_refl _, Nat.le_refl _⟩ ?_
        rw [show sp_toll t r v = (-2, t) from if_neg (by omega)]
        exact ⟨_, rfl, rfl, rfl, h, Out.rf⟩
      · --
        refine v_iload_n aX7_toll_14 rfl ?_
        refine v_bipush (by decide) aX7_toll_15 ?_
        refine v_icmp_le 23 rfl aX7_toll_17 (by omega) (by omega) (fun c17 => ?_) (fun c17 => ?_)
        · --
          refine v_aload_n aX7_toll_23 rfl ?_
          refine v_getr aX7_toll_24 fX7_19 hX.p rfl rfl ?_
          refine v_getr aX7_toll_27 fX7_124 hX.book.p rfl rfl ?_
          refine v_iload_n aX7_toll_30 rfl ?_
          refine v_iald aX7_toll_31 hX.book.p_tolls (by omega) (by decide) ?_
          refine v_istore_n aX7_toll_32 (by decide) rfl ?_
          refine v_aload_n aX7_toll_33 rfl ?_
          refine v_getr aX7_toll_34 fX7_19 hX.p rfl rfl ?_
          refine v_getr aX7_toll_37 fX7_124 hX.book.p rfl rfl ?_
          refine v_iload_n aX7_toll_40 rfl ?_
          refine v_iload_n aX7_toll_41 rfl ?_
          refine v_iast aX7_toll_42 hX.book.p_tolls (by omega) (by decide) ?_
          refine v_iload_n aX7_toll_43 rfl ?_
          refine v_ireturn aX7_toll_44 rfl ⟨Nat.le_refl _, Nat.le_refl _⟩ ?_
          unfold sp_toll
          rw [if_pos ⟨by omega, by omega⟩]
          exact ⟨_, rfl, rfl, h.1.2.2.2.2.2.2.2.1 r (by omega) (by omega), h.set_tl, Out.upd (by omega)⟩
        · --
          refine v_bipush (by decide) aX7_toll_20 ?_
          refine v_ireturn aX7_toll_22 rfl ⟨Nat.le_refl _, Nat.le_refl _⟩ ?_
          rw [show sp_toll t r v = (-2, t) from if_neg (by omega)]
          exact ⟨_, rfl, rfl, rfl, h, Out.rf⟩
set_option maxHeartbeats 4000000 in
set_option maxRecDepth 100000 in
theorem c_X7_known {s a b : Int} (hX : LsS S x im pl) (h : LsAt μ x t g n) (hs : (-2147483648 ≤ s ∧ s < 2147483648)) (ha : (-2147483648 ≤ a ∧ a < 2147483648)) (hb : (-2147483648 ≤ b ∧ b < 2147483648)) (ht : 2 ≤ t.1 ∧ t.1 ≤ 6) : Ct l G cX7_known (yX7_known, 4, (some FieldType.int), 1, 0, 0) [.ref x, vi s, vi a, vi b] S μ (Re S (fun z μ' => z = (sp_known t s a b).1 ∧ LsAt μ' x (sp_known t s a b).2 g n ∧ Out μ μ' x 33)) := by
  have f6 : μ (x + 3) 6 = t.1 := h.1.1
  have f7 : μ (x + 3) 7 = t.2.1 := h.1.2.1
  have f8 : μ (x + 3) 8 = t.2.2.1 := h.1.2.2.1
  have f1 : μ (x + 1) 1 = n := h.2.2
  have fg : μ (x + 1 + 1) = g := h.2.1
  refine Ct.of (by decide) rfl (by simp [vi, Value.category]) (Nat.le_of_ble_eq_true rfl) ?_
  refine v_aload_n aX7_known_0 rfl ?_
  refine v_getr aX7_known_1 fX7_19 hX.p rfl rfl ?_
  refine v_iload_n aX7_known_4 rfl ?_
  refine v_cVi (c_X0_has hX.book (by omega) (by omega)) aX7_known_5 mX0_has vX0_has lX7_93 hX.book.p rfl rfl rfl rfl rfl (Nat.le_of_ble_eq_true rfl) ⟨Nat.le_of_ble_eq_true rfl, Nat.le_of_ble_eq_true rfl⟩ (Nat.le_of_ble_eq_true rfl) ?_
  refine v_if_ne_b 13 rfl aX7_known_8 (fun c8 => ?_) (fun c8 => ?_)
  · --
    refine v_iload_n aX7_known_13 rfl ?_
    refine v_if_lt 29 rfl aX7_known_14 (by omega) (fun c14 => ?_) (fun c14 => ?_)
    · --
      refine v_bipush (by decide) aX7_known_29 ?_
      refine v_ireturn aX7_known_31 rfl ⟨Nat.le_refl _, Nat.le_refl _⟩ ?_
      unfold sp_known
      rw [if_pos (by omega), if_neg (by omega)]
      exact ⟨_, rfl, rfl, rfl, h, Out.rf⟩
    · --
      refine v_iload_n aX7_known_17 rfl ?_
      refine v_iload_n aX7_known_18 rfl ?_
      refine v_icmp_lt 29 rfl aX7_known_19 (by omega) (by omega) (fun c19 => ?_) (fun c19 => ?_)
      · --
        refine v_bipush (by decide) aX7_known_29 ?_
        refine v_ireturn aX7_known_31 rfl ⟨Nat.le_refl _, Nat.le_refl _⟩ ?_
        unfold sp_known
        rw [if_pos (by omega), if_neg (by omega)]
        exact ⟨_, rfl, rfl, rfl, h, Out.rf⟩
      · --
        refine v_iload_n aX7_known_22 rfl ?_
        refine v_sipush (by decide) aX7_known_23 ?_
        refine v_icmp_le 32 rfl aX7_known_26 (by omega) (by omega) (fun c26 => ?_) (fun c26 => ?_)
        · --
          refine v_aload_n aX7_known_32 rfl ?_
          refine v_getr aX7_known_33 fX7_19 hX.p rfl rfl ?_
          refine v_getr aX7_known_36 fX7_179 hX.book.p rfl rfl ?_
          refine v_iload_n aX7_known_39 rfl ?_
          refine v_iload_n aX7_known_40 rfl ?_
          refine v_iast aX7_known_41 hX.book.p_least (by omega) (by decide) ?_
          refine v_aload_n aX7_known_42 rfl ?_
          refine v_getr aX7_known_43 fX7_19 hX.p rfl rfl ?_
          refine v_getr aX7_known_46 fX7_182 hX.book.p rfl rfl ?_
          refine v_iload_n aX7_known_49 rfl ?_
          refine v_iload_n aX7_known_50 rfl ?_
          refine v_iast aX7_known_51 hX.book.p_greatest (by omega) (by decide) ?_
          refine v_iconst aX7_known_52 ?_
          refine v_ireturn aX7_known_53 rfl ⟨Nat.le_refl _, Nat.le_refl _⟩ ?_
          unfold sp_known
          rw [if_pos (by omega), if_pos (by omega)]
          exact ⟨_, rfl, rfl, rfl, (h.set_lo).set_hi, (Out.upd (by omega)).trans (Out.upd (by omega))⟩
        · --
          refine v_bipush (by decide) aX7_known_29 ?_
          refine v_ireturn aX7_known_31 rfl ⟨Nat.le_refl _, Nat.le_refl _⟩ ?_
          unfold sp_known
          rw [if_pos (by omega), if_neg (by omega)]
          exact ⟨_, rfl, rfl, rfl, h, Out.rf⟩
  · --
    refine v_iconst aX7_known_11 ?_
    refine v_ireturn aX7_known_12 rfl ⟨Nat.le_refl _, Nat.le_refl _⟩ ?_
    rw [show sp_known t s a b = (-1, t) from if_neg (by omega)]
    exact ⟨_, rfl, rfl, rfl, h, Out.rf⟩
set_option maxHeartbeats 4000000 in
set_option maxRecDepth 100000 in
theorem c_X7_loss {v : Int} (hX : LsS S x im pl) (h : LsAt μ x t g n) (hv : (-2147483648 ≤ v ∧ v < 2147483648)) : Ct l G cX7_loss (yX7_loss, 3, (some FieldType.int), 0, 0, 0) [.ref x, vi v] S μ (Re S (fun z μ' => z = (sp_loss t v).1 ∧ LsAt μ' x (sp_loss t v).2 g n ∧ Out μ μ' x 33)) := by
  have f6 : μ (x + 3) 6 = t.1 := h.1.1
  have f7 : μ (x + 3) 7 = t.2.1 := h.1.2.1
  have f8 : μ (x + 3) 8 = t.2.2.1 := h.1.2.2.1
  have f1 : μ (x + 1) 1 = n := h.2.2
  have fg : μ (x + 1 + 1) = g := h.2.1
  refine Ct.of (by decide) rfl (by simp [vi, Value.category]) (Nat.le_of_ble_eq_true rfl) ?_
  refine v_iload_n aX7_loss_0 rfl ?_
  refine v_if_lt 10 rfl aX7_loss_1 (by omega) (fun c1 => ?_) (fun c1 => ?_)
  · --
    refine v_bipush (by decide) aX7_loss_10 ?_
    refine v_ireturn aX7_loss_12 rfl ⟨Nat.le_refl _, Nat.le_refl _⟩ ?_
    rw [show sp_loss t v = (-2, t) from if_neg (by omega)]
    exact ⟨_, rfl, rfl, rfl, h, Out.rf⟩
  · --
    refine v_iload_n aX7_loss_4 rfl ?_
    refine v_bipush (by decide) aX7_loss_5 ?_
    refine v_icmp_le 13 rfl aX7_loss_7 (by omega) (by omega) (fun c7 => ?_) (fun c7 => ?_)
    · --
      refine v_aload_n aX7_loss_13 rfl ?_
      refine v_getr aX7_loss_14 fX7_19 hX.p rfl rfl ?_
      refine v_gi 8 rfl aX7_loss_17 fX7_185 hX.book.p rfl rfl ?_
      refine v_istore_n aX7_loss_20 (by decide) rfl ?_
      refine v_aload_n aX7_loss_21 rfl ?_
      refine v_getr aX7_loss_22 fX7_19 hX.p rfl rfl ?_
      refine v_iload_n aX7_loss_25 rfl ?_
      refine v_pi 8 rfl aX7_loss_26 fX7_185 nf0_8 ok0_8 hX.book.p rfl rfl ?_
      refine v_iload_n aX7_loss_29 rfl ?_
      refine v_ireturn aX7_loss_30 rfl ⟨Nat.le_refl _, Nat.le_refl _⟩ ?_
      unfold sp_loss
      rw [if_pos (by omega)]
      exact ⟨_, rfl, rfl, f8, h.set_l, Out.upd (by omega)⟩
    · --
      refine v_bipush (by decide) aX7_loss_10 ?_
      refine v_ireturn aX7_loss_12 rfl ⟨Nat.le_refl _, Nat.le_refl _⟩ ?_
      rw [show sp_loss t v = (-2, t) from if_neg (by omega)]
      exact ⟨_, rfl, rfl, rfl, h, Out.rf⟩
set_option maxHeartbeats 4000000 in
set_option maxRecDepth 100000 in
theorem c_X7_weight {s v : Int} (hX : LsS S x im pl) (h : LsAt μ x t g n) (hs : (-2147483648 ≤ s ∧ s < 2147483648)) (hv : (-2147483648 ≤ v ∧ v < 2147483648)) (ht : 2 ≤ t.1 ∧ t.1 ≤ 6) : Ct l G cX7_weight (yX7_weight, 4, (some FieldType.int), 1, 0, 0) [.ref x, vi s, vi v] S μ (Re S (fun z μ' => z = (sp_weight t s v).1 ∧ LsAt μ' x (sp_weight t s v).2 g n ∧ Out μ μ' x 33)) := by
  have f6 : μ (x + 3) 6 = t.1 := h.1.1
  have f7 : μ (x + 3) 7 = t.2.1 := h.1.2.1
  have f8 : μ (x + 3) 8 = t.2.2.1 := h.1.2.2.1
  have f1 : μ (x + 1) 1 = n := h.2.2
  have fg : μ (x + 1 + 1) = g := h.2.1
  refine Ct.of (by decide) rfl (by simp [vi, Value.category]) (Nat.le_of_ble_eq_true rfl) ?_
  refine v_aload_n aX7_weight_0 rfl ?_
  refine v_getr aX7_weight_1 fX7_19 hX.p rfl rfl ?_
  refine v_iload_n aX7_weight_4 rfl ?_
  refine v_cVi (c_X0_has hX.book (by omega) (by omega)) aX7_weight_5 mX0_has vX0_has lX7_93 hX.book.p rfl rfl rfl rfl rfl (Nat.le_of_ble_eq_true rfl) ⟨Nat.le_of_ble_eq_true rfl, Nat.le_of_ble_eq_true rfl⟩ (Nat.le_of_ble_eq_true rfl) ?_
  refine v_if_ne_b 13 rfl aX7_weight_8 (fun c8 => ?_) (fun c8 => ?_)
  · --
    refine v_iload_n aX7_weight_13 rfl ?_
    refine v_if_lt 23 rfl aX7_weight_14 (by omega) (fun c14 => ?_) (fun c14 => ?_)
    · --
      refine v_bipush (by decide) aX7_weight_23 ?_
      refine v_ireturn aX7_weight_25 rfl ⟨Nat.le_refl _, Nat.le_refl _⟩ ?_
      unfold sp_weight
      rw [if_pos (by omega), if_neg (by omega)]
      exact ⟨_, rfl, rfl, rfl, h, Out.rf⟩
    · --
      refine v_iload_n aX7_weight_17 rfl ?_
      refine v_bipush (by decide) aX7_weight_18 ?_
      refine v_icmp_le 26 rfl aX7_weight_20 (by omega) (by omega) (fun c20 => ?_) (fun c20 => ?_)
      · --
        refine v_aload_n aX7_weight_26 rfl ?_
        refine v_getr aX7_weight_27 fX7_19 hX.p rfl rfl ?_
        refine v_getr aX7_weight_30 fX7_211 hX.book.p rfl rfl ?_
        refine v_iload_n aX7_weight_33 rfl ?_
        refine v_iald aX7_weight_34 hX.book.p_weights (by omega) (by decide) ?_
        refine v_istore_n aX7_weight_35 (by decide) rfl ?_
        refine v_aload_n aX7_weight_36 rfl ?_
        refine v_getr aX7_weight_37 fX7_19 hX.p rfl rfl ?_
        refine v_getr aX7_weight_40 fX7_211 hX.book.p rfl rfl ?_
        refine v_iload_n aX7_weight_43 rfl ?_
        refine v_iload_n aX7_weight_44 rfl ?_
        refine v_iast aX7_weight_45 hX.book.p_weights (by omega) (by decide) ?_
        refine v_iload_n aX7_weight_46 rfl ?_
        refine v_ireturn aX7_weight_47 rfl ⟨Nat.le_refl _, Nat.le_refl _⟩ ?_
        unfold sp_weight
        rw [if_pos (by omega), if_pos (by omega)]
        exact ⟨_, rfl, rfl, h.1.2.2.2.2.2.2.2.2 s (by omega) (by omega), h.set_wt, Out.upd (by omega)⟩
      · --
        refine v_bipush (by decide) aX7_weight_23 ?_
        refine v_ireturn aX7_weight_25 rfl ⟨Nat.le_refl _, Nat.le_refl _⟩ ?_
        unfold sp_weight
        rw [if_pos (by omega), if_neg (by omega)]
        exact ⟨_, rfl, rfl, rfl, h, Out.rf⟩
  · --
    refine v_iconst aX7_weight_11 ?_
    refine v_ireturn aX7_weight_12 rfl ⟨Nat.le_refl _, Nat.le_refl _⟩ ?_
    rw [show sp_weight t s v = (-1, t) from if_neg (by omega)]
    exact ⟨_, rfl, rfl, rfl, h, Out.rf⟩
set_option maxHeartbeats 4000000 in
set_option maxRecDepth 100000 in
theorem c_X7_toldOfRow {w : Int} (hX : LsS S x im pl) (h : LsAt μ x t g n) (hw : (-2147483648 ≤ w ∧ w < 2147483648)) (hw2 : w < 0 ∨ 3 < w) (ht : 2 ≤ t.1 ∧ t.1 ≤ 6) : Ct l G cX7_toldOfRow (yX7_toldOfRow, 4, (some FieldType.int), 0, 0, 0) [.ref x, vi w] S μ (Ri S (sp_told t n w) μ) := by
  have f6 : μ (x + 3) 6 = t.1 := h.1.1
  have f7 : μ (x + 3) 7 = t.2.1 := h.1.2.1
  have f8 : μ (x + 3) 8 = t.2.2.1 := h.1.2.2.1
  have f1 : μ (x + 1) 1 = n := h.2.2
  have fg : μ (x + 1 + 1) = g := h.2.1
  refine Ct.of (by decide) rfl (by simp [vi, Value.category]) (Nat.le_of_ble_eq_true rfl) ?_
  refine v_iload_n aX7_toldOfRow_0 rfl ?_
  refine v_bipush (by decide) aX7_toldOfRow_1 ?_
  refine v_icmp_lt 12 rfl aX7_toldOfRow_3 (by omega) (by omega) (fun c3 => ?_) (fun c3 => ?_)
  · --
    refine v_bipush (by decide) aX7_toldOfRow_12 ?_
    refine v_ireturn aX7_toldOfRow_14 rfl ⟨Nat.le_refl _, Nat.le_refl _⟩ ?_
    refine ⟨?_, rfl, rfl⟩
    refine congrArg (fun z => some (vi z)) ?_
    unfold sp_told
    repeat rw [if_neg (by omega)]
  · --
    refine v_iload_n aX7_toldOfRow_6 rfl ?_
    refine v_bipush (by decide) aX7_toldOfRow_7 ?_
    refine v_icmp_lt 15 rfl aX7_toldOfRow_9 (by omega) (by omega) (fun c9 => ?_) (fun c9 => ?_)
    · --
      refine v_iload_n aX7_toldOfRow_15 rfl ?_
      refine v_bipush (by decide) aX7_toldOfRow_16 ?_
      refine v_idiv (by omega) (by omega) aX7_toldOfRow_18 ?_
      refine v_istore_n aX7_toldOfRow_19 (by decide) rfl ?_
      refine v_iload_n aX7_toldOfRow_20 rfl ?_
      refine v_bipush (by decide) aX7_toldOfRow_21 ?_
      refine v_irem (by omega) (by omega) aX7_toldOfRow_23 ?_
      refine v_istore_n aX7_toldOfRow_24 (by decide) rfl ?_
      refine v_iload_n aX7_toldOfRow_25 rfl ?_
      refine v_iload_n aX7_toldOfRow_26 rfl ?_
      refine v_iconst aX7_toldOfRow_27 ?_
      refine v_icmp_ne 36 rfl aX7_toldOfRow_28 (by omega) (by omega) (fun c28 => ?_) (fun c28 => ?_)
      · --
        refine v_aload_n aX7_toldOfRow_36 rfl ?_
        refine v_getr aX7_toldOfRow_37 fX7_19 hX.p rfl rfl ?_
        refine v_gi 6 rfl aX7_toldOfRow_40 fX7_61 hX.book.p rfl rfl ?_
        refine v_icmp_lt 49 rfl aX7_toldOfRow_43 (by omega) (by omega) (fun c43 => ?_) (fun c43 => ?_)
        · --
          refine v_iload_n aX7_toldOfRow_49 rfl ?_
          rcases (show w / 10 < 1 ∨ 4 < w / 10 ∨ w / 10 = 1 ∨ w / 10 = 2 ∨ w / 10 = 3 ∨ w / 10 = 4 by omega) with t50 | t50 | t50 | t50 | t50 | t50
          · --
            refine v_tableOut 120 aX7_toldOfRow_50 (by omega) (Or.inl t50) rfl ?_
            refine v_aload_n aX7_toldOfRow_120 rfl ?_
            refine v_getr aX7_toldOfRow_121 fX7_19 hX.p rfl rfl ?_
            refine v_getr aX7_toldOfRow_124 fX7_182 hX.book.p rfl rfl ?_
            refine v_iload_n aX7_toldOfRow_127 rfl ?_
            refine v_iald aX7_toldOfRow_128 hX.book.p_greatest (by omega) (by decide) ?_
            refine v_ireturn aX7_toldOfRow_129 rfl ⟨Nat.le_refl _, Nat.le_refl _⟩ ?_
            refine ⟨?_, rfl, rfl⟩
            refine congrArg (fun z => some (vi z)) ?_
            unfold sp_told
            rw [if_neg (by omega), if_neg (by omega), if_neg (by omega), if_neg (by omega), if_neg (by omega), if_neg (by omega), if_neg (by omega), if_neg (by omega), if_pos (by omega), h.1.2.2.2.2.2.2.1 _ (by omega) (by omega)]
            exact congrArg _ (by omega)
          · --
            refine v_tableOut 120 aX7_toldOfRow_50 (by omega) (Or.inr t50) rfl ?_
            refine v_aload_n aX7_toldOfRow_120 rfl ?_
            refine v_getr aX7_toldOfRow_121 fX7_19 hX.p rfl rfl ?_
            refine v_getr aX7_toldOfRow_124 fX7_182 hX.book.p rfl rfl ?_
            refine v_iload_n aX7_toldOfRow_127 rfl ?_
            refine v_iald aX7_toldOfRow_128 hX.book.p_greatest (by omega) (by decide) ?_
            refine v_ireturn aX7_toldOfRow_129 rfl ⟨Nat.le_refl _, Nat.le_refl _⟩ ?_
            refine ⟨?_, rfl, rfl⟩
            refine congrArg (fun z => some (vi z)) ?_
            unfold sp_told
            rw [if_neg (by omega), if_neg (by omega), if_neg (by omega), if_neg (by omega), if_neg (by omega), if_neg (by omega), if_neg (by omega), if_neg (by omega), if_pos (by omega), h.1.2.2.2.2.2.2.1 _ (by omega) (by omega)]
            exact congrArg _ (by omega)
          · --
            refine v_tableIn 80 aX7_toldOfRow_50 (by omega) (by omega) (by omega) (by rw [t50]; rfl) rfl ?_
            refine v_aload_n aX7_toldOfRow_80 rfl ?_
            refine v_getr aX7_toldOfRow_81 fX7_19 hX.p rfl rfl ?_
            refine v_getr aX7_toldOfRow_84 fX7_124 hX.book.p rfl rfl ?_
            refine v_iload_n aX7_toldOfRow_87 rfl ?_
            refine v_iald aX7_toldOfRow_88 hX.book.p_tolls (by omega) (by decide) ?_
            refine v_ireturn aX7_toldOfRow_89 rfl ⟨Nat.le_refl _, Nat.le_refl _⟩ ?_
            refine ⟨?_, rfl, rfl⟩
            refine congrArg (fun z => some (vi z)) ?_
            unfold sp_told
            rw [if_neg (by omega), if_neg (by omega), if_neg (by omega), if_neg (by omega), if_pos (by omega), h.1.2.2.2.2.2.2.2.1 _ (by omega) (by omega)]
            exact congrArg _ (by omega)
          · --
            refine v_tableIn 90 aX7_toldOfRow_50 (by omega) (by omega) (by omega) (by rw [t50]; rfl) rfl ?_
            refine v_aload_n aX7_toldOfRow_90 rfl ?_
            refine v_getr aX7_toldOfRow_91 fX7_19 hX.p rfl rfl ?_
            refine v_getr aX7_toldOfRow_94 fX7_211 hX.book.p rfl rfl ?_
            refine v_iload_n aX7_toldOfRow_97 rfl ?_
            refine v_iald aX7_toldOfRow_98 hX.book.p_weights (by omega) (by decide) ?_
            refine v_ireturn aX7_toldOfRow_99 rfl ⟨Nat.le_refl _, Nat.le_refl _⟩ ?_
            refine ⟨?_, rfl, rfl⟩
            refine congrArg (fun z => some (vi z)) ?_
            unfold sp_told
            rw [if_neg (by omega), if_neg (by omega), if_neg (by omega), if_neg (by omega), if_neg (by omega), if_pos (by omega), h.1.2.2.2.2.2.2.2.2 _ (by omega) (by omega)]
            exact congrArg _ (by omega)
          · --
            refine v_tableIn 100 aX7_toldOfRow_50 (by omega) (by omega) (by omega) (by rw [t50]; rfl) rfl ?_
            refine v_aload_n aX7_toldOfRow_100 rfl ?_
            refine v_getr aX7_toldOfRow_101 fX7_19 hX.p rfl rfl ?_
            refine v_getr aX7_toldOfRow_104 fX7_238 hX.book.p rfl rfl ?_
            refine v_iload_n aX7_toldOfRow_107 rfl ?_
            refine v_iald aX7_toldOfRow_108 hX.book.p_lifts (by omega) (by decide) ?_
            refine v_ireturn aX7_toldOfRow_109 rfl ⟨Nat.le_refl _, Nat.le_refl _⟩ ?_
            refine ⟨?_, rfl, rfl⟩
            refine congrArg (fun z => some (vi z)) ?_
            unfold sp_told
            rw [if_neg (by omega), if_neg (by omega), if_neg (by omega), if_neg (by omega), if_neg (by omega), if_neg (by omega), if_pos (by omega), h.1.2.2.2.2.1 _ (by omega) (by omega)]
            exact congrArg _ (by omega)
          · --
            refine v_tableIn 110 aX7_toldOfRow_50 (by omega) (by omega) (by omega) (by rw [t50]; rfl) rfl ?_
            refine v_aload_n aX7_toldOfRow_110 rfl ?_
            refine v_getr aX7_toldOfRow_111 fX7_19 hX.p rfl rfl ?_
            refine v_getr aX7_toldOfRow_114 fX7_179 hX.book.p rfl rfl ?_
            refine v_iload_n aX7_toldOfRow_117 rfl ?_
            refine v_iald aX7_toldOfRow_118 hX.book.p_least (by omega) (by decide) ?_
            refine v_ireturn aX7_toldOfRow_119 rfl ⟨Nat.le_refl _, Nat.le_refl _⟩ ?_
            refine ⟨?_, rfl, rfl⟩
            refine congrArg (fun z => some (vi z)) ?_
            unfold sp_told
            rw [if_neg (by omega), if_neg (by omega), if_neg (by omega), if_neg (by omega), if_neg (by omega), if_neg (by omega), if_neg (by omega), if_pos (by omega), h.1.2.2.2.2.2.1 _ (by omega) (by omega)]
            exact congrArg _ (by omega)
        · --
          refine v_bipush (by decide) aX7_toldOfRow_46 ?_
          refine v_ireturn aX7_toldOfRow_48 rfl ⟨Nat.le_refl _, Nat.le_refl _⟩ ?_
          refine ⟨?_, rfl, rfl⟩
          refine congrArg (fun z => some (vi z)) ?_
          unfold sp_told
          repeat rw [if_neg (by omega)]
      · --
        refine v_bipush (by decide) aX7_toldOfRow_31 ?_
        refine v_goto 43 rfl aX7_toldOfRow_33 ?_
        refine v_icmp_lt 49 rfl aX7_toldOfRow_43 (by omega) (by omega) (fun c43 => ?_) (fun c43 => ?_)
        · --
          refine v_iload_n aX7_toldOfRow_49 rfl ?_
          rcases (show w / 10 < 1 ∨ 4 < w / 10 ∨ w / 10 = 1 ∨ w / 10 = 2 ∨ w / 10 = 3 ∨ w / 10 = 4 by omega) with t50 | t50 | t50 | t50 | t50 | t50
          · --
            refine v_tableOut 120 aX7_toldOfRow_50 (by omega) (Or.inl t50) rfl ?_
            refine v_aload_n aX7_toldOfRow_120 rfl ?_
            refine v_getr aX7_toldOfRow_121 fX7_19 hX.p rfl rfl ?_
            refine v_getr aX7_toldOfRow_124 fX7_182 hX.book.p rfl rfl ?_
            refine v_iload_n aX7_toldOfRow_127 rfl ?_
            refine v_iald aX7_toldOfRow_128 hX.book.p_greatest (by omega) (by decide) ?_
            refine v_ireturn aX7_toldOfRow_129 rfl ⟨Nat.le_refl _, Nat.le_refl _⟩ ?_
            refine ⟨?_, rfl, rfl⟩
            refine congrArg (fun z => some (vi z)) ?_
            unfold sp_told
            rw [if_neg (by omega), if_neg (by omega), if_neg (by omega), if_neg (by omega), if_neg (by omega), if_neg (by omega), if_neg (by omega), if_neg (by omega), if_pos (by omega), h.1.2.2.2.2.2.2.1 _ (by omega) (by omega)]
            exact congrArg _ (by omega)
          · --
            refine v_tableOut 120 aX7_toldOfRow_50 (by omega) (Or.inr t50) rfl ?_
            refine v_aload_n aX7_toldOfRow_120 rfl ?_
            refine v_getr aX7_toldOfRow_121 fX7_19 hX.p rfl rfl ?_
            refine v_getr aX7_toldOfRow_124 fX7_182 hX.book.p rfl rfl ?_
            refine v_iload_n aX7_toldOfRow_127 rfl ?_
            refine v_iald aX7_toldOfRow_128 hX.book.p_greatest (by omega) (by decide) ?_
            refine v_ireturn aX7_toldOfRow_129 rfl ⟨Nat.le_refl _, Nat.le_refl _⟩ ?_
            refine ⟨?_, rfl, rfl⟩
            refine congrArg (fun z => some (vi z)) ?_
            unfold sp_told
            rw [if_neg (by omega), if_neg (by omega), if_neg (by omega), if_neg (by omega), if_neg (by omega), if_neg (by omega), if_neg (by omega), if_neg (by omega), if_pos (by omega), h.1.2.2.2.2.2.2.1 _ (by omega) (by omega)]
            exact congrArg _ (by omega)
          · --
            refine v_tableIn 80 aX7_toldOfRow_50 (by omega) (by omega) (by omega) (by rw [t50]; rfl) rfl ?_
            refine v_aload_n aX7_toldOfRow_80 rfl ?_
            refine v_getr aX7_toldOfRow_81 fX7_19 hX.p rfl rfl ?_
            refine v_getr aX7_toldOfRow_84 fX7_124 hX.book.p rfl rfl ?_
            refine v_iload_n aX7_toldOfRow_87 rfl ?_
            refine v_iald aX7_toldOfRow_88 hX.book.p_tolls (by omega) (by decide) ?_
            refine v_ireturn aX7_toldOfRow_89 rfl ⟨Nat.le_refl _, Nat.le_refl _⟩ ?_
            refine ⟨?_, rfl, rfl⟩
            refine congrArg (fun z => some (vi z)) ?_
            unfold sp_told
            rw [if_neg (by omega), if_neg (by omega), if_neg (by omega), if_neg (by omega), if_pos (by omega), h.1.2.2.2.2.2.2.2.1 _ (by omega) (by omega)]
            exact congrArg _ (by omega)
          · --
            refine v_tableIn 90 aX7_toldOfRow_50 (by omega) (by omega) (by omega) (by rw [t50]; rfl) rfl ?_
            refine v_aload_n aX7_toldOfRow_90 rfl ?_
            refine v_getr aX7_toldOfRow_91 fX7_19 hX.p rfl rfl ?_
            refine v_getr aX7_toldOfRow_94 fX7_211 hX.book.p rfl rfl ?_
            refine v_iload_n aX7_toldOfRow_97 rfl ?_
            refine v_iald aX7_toldOfRow_98 hX.book.p_weights (by omega) (by decide) ?_
            refine v_ireturn aX7_toldOfRow_99 rfl ⟨Nat.le_refl _, Nat.le_refl _⟩ ?_
            refine ⟨?_, rfl, rfl⟩
            refine congrArg (fun z => some (vi z)) ?_
            unfold sp_told
            rw [if_neg (by omega), if_neg (by omega), if_neg (by omega), if_neg (by omega), if_neg (by omega), if_pos (by omega), h.1.2.2.2.2.2.2.2.2 _ (by omega) (by omega)]
            exact congrArg _ (by omega)
          · --
            refine v_tableIn 100 aX7_toldOfRow_50 (by omega) (by omega) (by omega) (by rw [t50]; rfl) rfl ?_
            refine v_aload_n aX7_toldOfRow_100 rfl ?_
            refine v_getr aX7_toldOfRow_101 fX7_19 hX.p rfl rfl ?_
            refine v_getr aX7_toldOfRow_104 fX7_238 hX.book.p rfl rfl ?_
            refine v_iload_n aX7_toldOfRow_107 rfl ?_
            refine v_iald aX7_toldOfRow_108 hX.book.p_lifts (by omega) (by decide) ?_
            refine v_ireturn aX7_toldOfRow_109 rfl ⟨Nat.le_refl _, Nat.le_refl _⟩ ?_
            refine ⟨?_, rfl, rfl⟩
            refine congrArg (fun z => some (vi z)) ?_
            unfold sp_told
            rw [if_neg (by omega), if_neg (by omega), if_neg (by omega), if_neg (by omega), if_neg (by omega), if_neg (by omega), if_pos (by omega), h.1.2.2.2.2.1 _ (by omega) (by omega)]
            exact congrArg _ (by omega)
          · --
            refine v_tableIn 110 aX7_toldOfRow_50 (by omega) (by omega) (by omega) (by rw [t50]; rfl) rfl ?_
            refine v_aload_n aX7_toldOfRow_110 rfl ?_
            refine v_getr aX7_toldOfRow_111 fX7_19 hX.p rfl rfl ?_
            refine v_getr aX7_toldOfRow_114 fX7_179 hX.book.p rfl rfl ?_
            refine v_iload_n aX7_toldOfRow_117 rfl ?_
            refine v_iald aX7_toldOfRow_118 hX.book.p_least (by omega) (by decide) ?_
            refine v_ireturn aX7_toldOfRow_119 rfl ⟨Nat.le_refl _, Nat.le_refl _⟩ ?_
            refine ⟨?_, rfl, rfl⟩
            refine congrArg (fun z => some (vi z)) ?_
            unfold sp_told
            rw [if_neg (by omega), if_neg (by omega), if_neg (by omega), if_neg (by omega), if_neg (by omega), if_neg (by omega), if_neg (by omega), if_pos (by omega), h.1.2.2.2.2.2.1 _ (by omega) (by omega)]
            exact congrArg _ (by omega)
        · --
          refine v_bipush (by decide) aX7_toldOfRow_46 ?_
          refine v_ireturn aX7_toldOfRow_48 rfl ⟨Nat.le_refl _, Nat.le_refl _⟩ ?_
          refine ⟨?_, rfl, rfl⟩
          refine congrArg (fun z => some (vi z)) ?_
          unfold sp_told
          repeat rw [if_neg (by omega)]
    · --
      refine v_bipush (by decide) aX7_toldOfRow_12 ?_
      refine v_ireturn aX7_toldOfRow_14 rfl ⟨Nat.le_refl _, Nat.le_refl _⟩ ?_
      refine ⟨?_, rfl, rfl⟩
      refine congrArg (fun z => some (vi z)) ?_
      unfold sp_told
      repeat rw [if_neg (by omega)]
set_option maxHeartbeats 4000000 in
set_option maxRecDepth 100000 in
theorem c_X7_told {w : Int} (hX : LsS S x im pl) (h : LsAt μ x t g n) (hw : (-2147483648 ≤ w ∧ w < 2147483648)) (ht : 2 ≤ t.1 ∧ t.1 ≤ 6) : Ct l G cX7_told (yX7_told, 2, (some FieldType.int), 1, 0, 0) [.ref x, vi w] S μ (Re S (fun z μ' => z = sp_told t n w ∧ LsAt μ' x t g n ∧ Out μ μ' x 33)) := by
  have f6 : μ (x + 3) 6 = t.1 := h.1.1
  have f7 : μ (x + 3) 7 = t.2.1 := h.1.2.1
  have f8 : μ (x + 3) 8 = t.2.2.1 := h.1.2.2.1
  have f1 : μ (x + 1) 1 = n := h.2.2
  have fg : μ (x + 1 + 1) = g := h.2.1
  refine Ct.of (by decide) rfl (by simp [vi, Value.category]) (Nat.le_of_ble_eq_true rfl) ?_
  refine v_iload_n aX7_told_0 rfl ?_
  rcases (show w < 0 ∨ 3 < w ∨ w = 0 ∨ w = 1 ∨ w = 2 ∨ w = 3 by omega) with t1 | t1 | t1 | t1 | t1 | t1
  · --
    refine v_tableOut 64 aX7_told_1 (by omega) (Or.inl t1) rfl ?_
    refine v_aload_n aX7_told_64 rfl ?_
    refine v_iload_n aX7_told_65 rfl ?_
    refine v_cVi (c_X7_toldOfRow hX h (by omega) (by omega) ht) aX7_told_66 mX7_toldOfRow vX7_toldOfRow lX7_235 hX.p rfl rfl rfl rfl rfl (Nat.le_of_ble_eq_true rfl) ⟨Nat.le_of_ble_eq_true rfl, Nat.le_of_ble_eq_true rfl⟩ (Nat.le_of_ble_eq_true rfl) ?_
    refine v_ireturn aX7_told_69 rfl ⟨Nat.le_refl _, Nat.le_refl _⟩ ?_
    exact ⟨_, rfl, rfl, rfl, h, Out.rf⟩
  · --
    refine v_tableOut 64 aX7_told_1 (by omega) (Or.inr t1) rfl ?_
    refine v_aload_n aX7_told_64 rfl ?_
    refine v_iload_n aX7_told_65 rfl ?_
    refine v_cVi (c_X7_toldOfRow hX h (by omega) (by omega) ht) aX7_told_66 mX7_toldOfRow vX7_toldOfRow lX7_235 hX.p rfl rfl rfl rfl rfl (Nat.le_of_ble_eq_true rfl) ⟨Nat.le_of_ble_eq_true rfl, Nat.le_of_ble_eq_true rfl⟩ (Nat.le_of_ble_eq_true rfl) ?_
    refine v_ireturn aX7_told_69 rfl ⟨Nat.le_refl _, Nat.le_refl _⟩ ?_
    exact ⟨_, rfl, rfl, rfl, h, Out.rf⟩
  · --
    refine v_tableIn 32 aX7_told_1 (by omega) (by omega) (by omega) (by rw [t1]; rfl) rfl ?_
    refine v_aload_n aX7_told_32 rfl ?_
    refine v_getr aX7_told_33 fX7_10 hX.p rfl rfl ?_
    refine v_gi 1 rfl aX7_told_36 fX7_69 hX.pad.p rfl rfl ?_
    refine v_ireturn aX7_told_39 rfl ⟨Nat.le_refl _, Nat.le_refl _⟩ ?_
    refine ⟨_, rfl, rfl, ?_, h, Out.rf⟩
    unfold sp_told
    rw [if_pos (by omega)]
    exact f1
  · --
    refine v_tableIn 40 aX7_told_1 (by omega) (by omega) (by omega) (by rw [t1]; rfl) rfl ?_
    refine v_aload_n aX7_told_40 rfl ?_
    refine v_getr aX7_told_41 fX7_19 hX.p rfl rfl ?_
    refine v_gi 6 rfl aX7_told_44 fX7_61 hX.book.p rfl rfl ?_
    refine v_ireturn aX7_told_47 rfl ⟨Nat.le_refl _, Nat.le_refl _⟩ ?_
    refine ⟨_, rfl, rfl, ?_, h, Out.rf⟩
    unfold sp_told
    rw [if_neg (by omega), if_pos (by omega)]
    exact f6
  · --
    refine v_tableIn 48 aX7_told_1 (by omega) (by omega) (by omega) (by rw [t1]; rfl) rfl ?_
    refine v_aload_n aX7_told_48 rfl ?_
    refine v_getr aX7_told_49 fX7_19 hX.p rfl rfl ?_
    refine v_gi 7 rfl aX7_told_52 fX7_82 hX.book.p rfl rfl ?_
    refine v_ireturn aX7_told_55 rfl ⟨Nat.le_refl _, Nat.le_refl _⟩ ?_
    refine ⟨_, rfl, rfl, ?_, h, Out.rf⟩
    unfold sp_told
    rw [if_neg (by omega), if_neg (by omega), if_pos (by omega)]
    exact f7
  · --
    refine v_tableIn 56 aX7_told_1 (by omega) (by omega) (by omega) (by rw [t1]; rfl) rfl ?_
    refine v_aload_n aX7_told_56 rfl ?_
    refine v_getr aX7_told_57 fX7_19 hX.p rfl rfl ?_
    refine v_gi 8 rfl aX7_told_60 fX7_185 hX.book.p rfl rfl ?_
    refine v_ireturn aX7_told_63 rfl ⟨Nat.le_refl _, Nat.le_refl _⟩ ?_
    refine ⟨_, rfl, rfl, ?_, h, Out.rf⟩
    unfold sp_told
    rw [if_neg (by omega), if_neg (by omega), if_neg (by omega), if_pos (by omega)]
    exact f8
end LS1
