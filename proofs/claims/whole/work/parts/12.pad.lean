/-! the pad of the class -/
section PAD
variable {l : Launch} {G : Glb} {S : Sh} {μ : Mu} {b : Nat}
set_option maxHeartbeats 4000000 in
set_option maxRecDepth 100000 in
theorem c_X2_put {s : Int} (hP : PadS S b) (h : 0 ≤ μ b 1 ∧ μ b 1 < 40) : Ct l G cX2_put (yX2_put, 2, none, 0, 0, 0) [.ref b, vi s] S μ (Rv S (upd2 (upd2 μ (b + 1) (μ b 1) s) b 1 (μ b 1 + 1))) := by
  refine Ct.of (by decide) rfl (by simp [vi, Value.category]) (Nat.le_of_ble_eq_true rfl) ?_
  refine v_aload_n aX2_put_0 rfl ?_
  refine v_gi 1 rfl aX2_put_1 fX2_15 hP.p rfl rfl ?_
  refine v_bipush (by decide) aX2_put_4 ?_
  refine v_icmp_ge 29 rfl aX2_put_6 (by omega) (by omega) (fun c6 => ?_) (fun c6 => ?_)
  · exact absurd c6 (by omega)
  · --
    refine v_aload_n aX2_put_9 rfl ?_
    refine v_getr aX2_put_10 fX2_9 hP.p rfl rfl ?_
    refine v_aload_n aX2_put_13 rfl ?_
    refine v_gi 1 rfl aX2_put_14 fX2_15 hP.p rfl rfl ?_
    refine v_iload_n aX2_put_17 rfl ?_
    refine v_iast aX2_put_18 hP.p_signs (by omega) (by decide) ?_
    refine v_aload_n aX2_put_19 rfl ?_
    refine v_dup rfl aX2_put_20 ?_
    refine v_gi 1 rfl aX2_put_21 fX2_15 hP.p rfl rfl ?_
    rw [upd2_row (by omega)]
    refine v_iconst aX2_put_24 ?_
    refine v_iadd aX2_put_25 ?_
    refine v_pi 1 rfl aX2_put_26 fX2_15 nf2_1 ok2_1 hP.p rfl rfl ?_
    refine v_return aX2_put_29 rfl ⟨Nat.le_refl _, Nat.le_refl _⟩ ?_
    exact ⟨rfl, rfl, rfl⟩
set_option maxHeartbeats 4000000 in
set_option maxRecDepth 100000 in
theorem c_X2_clear (hP : PadS S b) : Ct l G cX2_clear (yX2_clear, 1, none, 0, 0, 0) [.ref b] S μ (Rv S (upd2 μ b 1 0)) := by
  refine Ct.of (by decide) rfl (by simp [vi, Value.category]) (Nat.le_of_ble_eq_true rfl) ?_
  refine v_aload_n aX2_clear_0 rfl ?_
  refine v_iconst aX2_clear_1 ?_
  refine v_pi 1 rfl aX2_clear_2 fX2_15 nf2_1 ok2_1 hP.p rfl rfl ?_
  refine v_return aX2_clear_5 rfl ⟨Nat.le_refl _, Nat.le_refl _⟩ ?_
  exact ⟨rfl, rfl, rfl⟩
set_option maxHeartbeats 4000000 in
set_option maxRecDepth 100000 in
theorem c_X2_sackAt {p : Int} (hP : PadS S b) (h : 0 ≤ p ∧ p < 40) : Ct l G cX2_sackAt (yX2_sackAt, 2, (some FieldType.int), 0, 0, 0) [.ref b, vi p] S μ (Ri S (μ (b + 1) p - 97) μ) := by
  refine Ct.of (by decide) rfl (by simp [vi, Value.category]) (Nat.le_of_ble_eq_true rfl) ?_
  refine v_aload_n aX2_sackAt_0 rfl ?_
  refine v_getr aX2_sackAt_1 fX2_9 hP.p rfl rfl ?_
  refine v_iload_n aX2_sackAt_4 rfl ?_
  refine v_iald aX2_sackAt_5 hP.p_signs (by omega) (by decide) ?_
  refine v_bipush (by decide) aX2_sackAt_6 ?_
  refine v_isub aX2_sackAt_8 ?_
  refine v_ireturn aX2_sackAt_9 rfl ⟨Nat.le_refl _, Nat.le_refl _⟩ ?_
  exact ⟨rfl, rfl, rfl⟩
def how (s : Int) : Int := if s = 61 then 0 else if s = 43 then 1 else 2
set_option maxHeartbeats 4000000 in
set_option maxRecDepth 100000 in
theorem c_X2_howAt {p : Int} (hP : PadS S b) (h : 0 ≤ p ∧ p < 40) (hg : -2147483648 ≤ μ (b + 1) p ∧ μ (b + 1) p < 2147483648) : Ct l G cX2_howAt (yX2_howAt, 3, (some FieldType.int), 0, 0, 0) [.ref b, vi p] S μ (Ri S (how (μ (b + 1) p)) μ) := by
  refine Ct.of (by decide) rfl (by simp [vi, Value.category]) (Nat.le_of_ble_eq_true rfl) ?_
  refine v_aload_n aX2_howAt_0 rfl ?_
  refine v_getr aX2_howAt_1 fX2_9 hP.p rfl rfl ?_
  refine v_iload_n aX2_howAt_4 rfl ?_
  refine v_iald aX2_howAt_5 hP.p_signs (by omega) (by decide) ?_
  refine v_istore_n aX2_howAt_6 (by decide) rfl ?_
  refine v_iload_n aX2_howAt_7 rfl ?_
  refine v_bipush (by decide) aX2_howAt_8 ?_
  refine v_icmp_ne 15 rfl aX2_howAt_10 (by omega) (by omega) (fun c10 => ?_) (fun c10 => ?_)
  · --
    refine v_iload_n aX2_howAt_15 rfl ?_
    refine v_bipush (by decide) aX2_howAt_16 ?_
    refine v_icmp_ne 25 rfl aX2_howAt_18 (by omega) (by omega) (fun c18 => ?_) (fun c18 => ?_)
    · --
      refine v_iconst aX2_howAt_25 ?_
      refine v_ireturn aX2_howAt_26 rfl ⟨Nat.le_refl _, Nat.le_refl _⟩ ?_
      exact ⟨by simp_all [how], rfl, rfl⟩
    · --
      refine v_iconst aX2_howAt_21 ?_
      refine v_goto 26 rfl aX2_howAt_22 ?_
      refine v_ireturn aX2_howAt_26 rfl ⟨Nat.le_refl _, Nat.le_refl _⟩ ?_
      exact ⟨by simp_all [how], rfl, rfl⟩
  · --
    refine v_iconst aX2_howAt_13 ?_
    refine v_ireturn aX2_howAt_14 rfl ⟨Nat.le_refl _, Nat.le_refl _⟩ ?_
    exact ⟨by simp_all [how], rfl, rfl⟩
/-- the sign at place p may stand there -/
def mayS (g : Int → Int) (sc p : Int) : Prop := if p % 2 = 1 then g p = 43 ∨ g p = 45 ∨ g p = 61 else 97 ≤ g p ∧ g p < 97 + sc ∧ (p < 2 ∨ g (p - 2) ≠ g p)
set_option maxHeartbeats 4000000 in
set_option maxRecDepth 100000 in
theorem c_X2_mayStand {p sc : Int} (hP : PadS S b) (h : 0 ≤ p ∧ p < 40) (hs : 0 ≤ sc ∧ sc ≤ 6) (hg : ∀ i : Int, 0 ≤ i → i < 40 → -1000 ≤ μ (b + 1) i ∧ μ (b + 1) i ≤ 1000) : Ct l G cX2_mayStand (yX2_mayStand, 4, (some FieldType.boolean), 0, 0, 0) [.ref b, vi p, vi sc] S μ (Ri S (b2i (mayS (μ (b + 1)) sc p)) μ) := by
  have hp := hg p h.1 h.2
  refine Ct.of (by decide) rfl (by simp [vi, Value.category]) (Nat.le_of_ble_eq_true rfl) ?_
  refine v_aload_n aX2_mayStand_0 rfl ?_
  refine v_getr aX2_mayStand_1 fX2_9 hP.p rfl rfl ?_
  refine v_iload_n aX2_mayStand_4 rfl ?_
  refine v_iald aX2_mayStand_5 hP.p_signs (by omega) (by decide) ?_
  refine v_istore_n aX2_mayStand_6 (by decide) rfl ?_
  refine v_iload_n aX2_mayStand_7 rfl ?_
  refine v_iconst aX2_mayStand_8 ?_
  refine v_irem (by omega) (by omega) aX2_mayStand_9 ?_
  refine v_iconst aX2_mayStand_10 ?_
  refine v_icmp_ne 38 rfl aX2_mayStand_11 (by omega) (by omega) (fun c11 => ?_) (fun c11 => ?_)
  · --
    refine v_iload_n aX2_mayStand_38 rfl ?_
    refine v_bipush (by decide) aX2_mayStand_39 ?_
    refine v_icmp_lt 52 rfl aX2_mayStand_41 (by omega) (by omega) (fun c41 => ?_) (fun c41 => ?_)
    · --
      refine v_iconst aX2_mayStand_52 ?_
      refine v_zreturn aX2_mayStand_53 rfl ⟨Nat.le_refl _, Nat.le_refl _⟩ (by first | exact Or.inl rfl | exact Or.inr rfl | exact b2i_01 | omega) ?_
      first
        | exact ⟨by rw [b2i_t (by unfold mayS; first | (rw [if_pos (by omega)]; omega) | (rw [if_neg (by omega)]; omega))], rfl, rfl⟩
        | exact ⟨by rw [b2i_f (by unfold mayS; first | (rw [if_pos (by omega)]; omega) | (rw [if_neg (by omega)]; omega))], rfl, rfl⟩
    · --
      refine v_iload_n aX2_mayStand_44 rfl ?_
      refine v_bipush (by decide) aX2_mayStand_45 ?_
      refine v_iload_n aX2_mayStand_47 rfl ?_
      refine v_iadd aX2_mayStand_48 ?_
      refine v_icmp_lt 54 rfl aX2_mayStand_49 (by omega) (by omega) (fun c49 => ?_) (fun c49 => ?_)
      · --
        refine v_iload_n aX2_mayStand_54 rfl ?_
        refine v_iconst aX2_mayStand_55 ?_
        refine v_icmp_lt 71 rfl aX2_mayStand_56 (by omega) (by omega) (fun c56 => ?_) (fun c56 => ?_)
        · --
          refine v_iconst aX2_mayStand_71 ?_
          refine v_goto 76 rfl aX2_mayStand_72 ?_
          refine v_zreturn aX2_mayStand_76 rfl ⟨Nat.le_refl _, Nat.le_refl _⟩ (by first | exact Or.inl rfl | exact Or.inr rfl | exact b2i_01 | omega) ?_
          first
            | exact ⟨by rw [b2i_t (by unfold mayS; first | (rw [if_pos (by omega)]; omega) | (rw [if_neg (by omega)]; omega))], rfl, rfl⟩
            | exact ⟨by rw [b2i_f (by unfold mayS; first | (rw [if_pos (by omega)]; omega) | (rw [if_neg (by omega)]; omega))], rfl, rfl⟩
        · --
          refine v_aload_n aX2_mayStand_59 rfl ?_
          refine v_getr aX2_mayStand_60 fX2_9 hP.p rfl rfl ?_
          refine v_iload_n aX2_mayStand_63 rfl ?_
          refine v_iconst aX2_mayStand_64 ?_
          refine v_isub aX2_mayStand_65 ?_
          refine v_iald aX2_mayStand_66 hP.p_signs (by omega) (by decide) ?_
          refine v_iload_n aX2_mayStand_67 rfl ?_
          have hq := hg (p - 2) (by omega) (by omega)
          refine v_icmp_eq 75 rfl aX2_mayStand_68 (by omega) (by omega) (fun c68 => ?_) (fun c68 => ?_)
          · --
            refine v_iconst aX2_mayStand_75 ?_
            refine v_zreturn aX2_mayStand_76 rfl ⟨Nat.le_refl _, Nat.le_refl _⟩ (by first | exact Or.inl rfl | exact Or.inr rfl | exact b2i_01 | omega) ?_
            first
              | exact ⟨by rw [b2i_t (by unfold mayS; first | (rw [if_pos (by omega)]; omega) | (rw [if_neg (by omega)]; omega))], rfl, rfl⟩
              | exact ⟨by rw [b2i_f (by unfold mayS; first | (rw [if_pos (by omega)]; omega) | (rw [if_neg (by omega)]; omega))], rfl, rfl⟩
          · --
            refine v_iconst aX2_mayStand_71 ?_
            refine v_goto 76 rfl aX2_mayStand_72 ?_
            refine v_zreturn aX2_mayStand_76 rfl ⟨Nat.le_refl _, Nat.le_refl _⟩ (by first | exact Or.inl rfl | exact Or.inr rfl | exact b2i_01 | omega) ?_
            first
              | exact ⟨by rw [b2i_t (by unfold mayS; first | (rw [if_pos (by omega)]; omega) | (rw [if_neg (by omega)]; omega))], rfl, rfl⟩
              | exact ⟨by rw [b2i_f (by unfold mayS; first | (rw [if_pos (by omega)]; omega) | (rw [if_neg (by omega)]; omega))], rfl, rfl⟩
      · --
        refine v_iconst aX2_mayStand_52 ?_
        refine v_zreturn aX2_mayStand_53 rfl ⟨Nat.le_refl _, Nat.le_refl _⟩ (by first | exact Or.inl rfl | exact Or.inr rfl | exact b2i_01 | omega) ?_
        first
          | exact ⟨by rw [b2i_t (by unfold mayS; first | (rw [if_pos (by omega)]; omega) | (rw [if_neg (by omega)]; omega))], rfl, rfl⟩
          | exact ⟨by rw [b2i_f (by unfold mayS; first | (rw [if_pos (by omega)]; omega) | (rw [if_neg (by omega)]; omega))], rfl, rfl⟩
  · --
    refine v_iload_n aX2_mayStand_14 rfl ?_
    refine v_bipush (by decide) aX2_mayStand_15 ?_
    refine v_icmp_eq 32 rfl aX2_mayStand_17 (by omega) (by omega) (fun c17 => ?_) (fun c17 => ?_)
    · --
      refine v_iconst aX2_mayStand_32 ?_
      refine v_goto 37 rfl aX2_mayStand_33 ?_
      refine v_zreturn aX2_mayStand_37 rfl ⟨Nat.le_refl _, Nat.le_refl _⟩ (by first | exact Or.inl rfl | exact Or.inr rfl | exact b2i_01 | omega) ?_
      first
        | exact ⟨by rw [b2i_t (by unfold mayS; first | (rw [if_pos (by omega)]; omega) | (rw [if_neg (by omega)]; omega))], rfl, rfl⟩
        | exact ⟨by rw [b2i_f (by unfold mayS; first | (rw [if_pos (by omega)]; omega) | (rw [if_neg (by omega)]; omega))], rfl, rfl⟩
    · --
      refine v_iload_n aX2_mayStand_20 rfl ?_
      refine v_bipush (by decide) aX2_mayStand_21 ?_
      refine v_icmp_eq 32 rfl aX2_mayStand_23 (by omega) (by omega) (fun c23 => ?_) (fun c23 => ?_)
      · --
        refine v_iconst aX2_mayStand_32 ?_
        refine v_goto 37 rfl aX2_mayStand_33 ?_
        refine v_zreturn aX2_mayStand_37 rfl ⟨Nat.le_refl _, Nat.le_refl _⟩ (by first | exact Or.inl rfl | exact Or.inr rfl | exact b2i_01 | omega) ?_
        first
          | exact ⟨by rw [b2i_t (by unfold mayS; first | (rw [if_pos (by omega)]; omega) | (rw [if_neg (by omega)]; omega))], rfl, rfl⟩
          | exact ⟨by rw [b2i_f (by unfold mayS; first | (rw [if_pos (by omega)]; omega) | (rw [if_neg (by omega)]; omega))], rfl, rfl⟩
      · --
        refine v_iload_n aX2_mayStand_26 rfl ?_
        refine v_bipush (by decide) aX2_mayStand_27 ?_
        refine v_icmp_ne 36 rfl aX2_mayStand_29 (by omega) (by omega) (fun c29 => ?_) (fun c29 => ?_)
        · --
          refine v_iconst aX2_mayStand_36 ?_
          refine v_zreturn aX2_mayStand_37 rfl ⟨Nat.le_refl _, Nat.le_refl _⟩ (by first | exact Or.inl rfl | exact Or.inr rfl | exact b2i_01 | omega) ?_
          first
            | exact ⟨by rw [b2i_t (by unfold mayS; first | (rw [if_pos (by omega)]; omega) | (rw [if_neg (by omega)]; omega))], rfl, rfl⟩
            | exact ⟨by rw [b2i_f (by unfold mayS; first | (rw [if_pos (by omega)]; omega) | (rw [if_neg (by omega)]; omega))], rfl, rfl⟩
        · --
          refine v_iconst aX2_mayStand_32 ?_
          refine v_goto 37 rfl aX2_mayStand_33 ?_
          refine v_zreturn aX2_mayStand_37 rfl ⟨Nat.le_refl _, Nat.le_refl _⟩ (by first | exact Or.inl rfl | exact Or.inr rfl | exact b2i_01 | omega) ?_
          first
            | exact ⟨by rw [b2i_t (by unfold mayS; first | (rw [if_pos (by omega)]; omega) | (rw [if_neg (by omega)]; omega))], rfl, rfl⟩
            | exact ⟨by rw [b2i_f (by unfold mayS; first | (rw [if_pos (by omega)]; omega) | (rw [if_neg (by omega)]; omega))], rfl, rfl⟩
/-- the first fault from place p on, of n signs -/
noncomputable def ffd (g : Int → Int) (sc n : Int) : Nat → Int → Int
  | 0, _ => -6
  | m + 1, p => if p < n then @ite Int (mayS g sc p) (Classical.propDecidable _) (ffd g sc n m (p + 1)) p else if n % 2 = 1 then -6 else n
set_option maxHeartbeats 4000000 in
set_option maxRecDepth 100000 in
theorem l_X2_firstFault {sc : Int} {P : Pst} (hP : PadS S b) (hn : 0 ≤ μ b 1 ∧ μ b 1 ≤ 40) (hs : 0 ≤ sc ∧ sc ≤ 6) (hg : ∀ i : Int, 0 ≤ i → i < 40 → -1000 ≤ μ (b + 1) i ∧ μ (b + 1) i ≤ 1000) : ∀ (m : Nat) (p : Int), (0 ≤ p ∧ p ≤ μ b 1) → μ b 1 - p < m → (P (some (vi (ffd (μ (b + 1)) sc (μ b 1) m p))) S μ) → V l G cX2_firstFault (yX2_firstFault, 3, (some FieldType.int), 1, 0, 0) P (0, 0) S μ 2 [.ref b, vi sc, vi p] [] := by
  intro m
  induction m with
  | zero => intro p h0 h1 hh; omega
  | succ m ih =>
    intro p h0 h1 hh
    unfold ffd at hh
    refine v_iload_n aX2_firstFault_2 rfl ?_
    refine v_aload_n aX2_firstFault_3 rfl ?_
    refine v_gi 1 rfl aX2_firstFault_4 fX2_15 hP.p rfl rfl ?_
    refine v_icmp_ge 27 rfl aX2_firstFault_7 (by omega) (by omega) (fun c7 => ?_) (fun c7 => ?_)
    · --
      refine v_aload_n aX2_firstFault_27 rfl ?_
      refine v_gi 1 rfl aX2_firstFault_28 fX2_15 hP.p rfl rfl ?_
      refine v_iconst aX2_firstFault_31 ?_
      refine v_irem (by omega) (by omega) aX2_firstFault_32 ?_
      refine v_iconst aX2_firstFault_33 ?_
      refine v_icmp_ne 42 rfl aX2_firstFault_34 (by omega) (by omega) (fun c34 => ?_) (fun c34 => ?_)
      · --
        refine v_aload_n aX2_firstFault_42 rfl ?_
        refine v_gi 1 rfl aX2_firstFault_43 fX2_15 hP.p rfl rfl ?_
        refine v_ireturn aX2_firstFault_46 rfl ⟨Nat.le_refl _, Nat.le_refl _⟩ ?_
        rw [if_neg (by omega)] at hh
        first
          | (rw [if_pos (by omega)] at hh; exact hh)
          | (rw [if_neg (by omega)] at hh; exact hh)
      · --
        refine v_bipush (by decide) aX2_firstFault_37 ?_
        refine v_goto 46 rfl aX2_firstFault_39 ?_
        refine v_ireturn aX2_firstFault_46 rfl ⟨Nat.le_refl _, Nat.le_refl _⟩ ?_
        rw [if_neg (by omega)] at hh
        first
          | (rw [if_pos (by omega)] at hh; exact hh)
          | (rw [if_neg (by omega)] at hh; exact hh)
    · --
      refine v_aload_n aX2_firstFault_10 rfl ?_
      refine v_iload_n aX2_firstFault_11 rfl ?_
      refine v_iload_n aX2_firstFault_12 rfl ?_
      refine v_cVi (c_X2_mayStand hP (by omega) hs hg) aX2_firstFault_13 mX2_mayStand vX2_mayStand lX2_19 hP.p rfl rfl rfl rfl rfl (Nat.le_of_ble_eq_true rfl) ⟨Nat.le_of_ble_eq_true rfl, Nat.le_of_ble_eq_true rfl⟩ (Nat.le_of_ble_eq_true rfl) ?_
      refine v_if_ne_b 21 rfl aX2_firstFault_16 (fun c16 => ?_) (fun c16 => ?_)
      · --
        refine v_iinc aX2_firstFault_21 rfl (by decide) rfl ?_
        refine v_goto 2 rfl aX2_firstFault_24 ?_
        exact ih (p + 1) (by omega) (by omega) (by rw [if_pos (by omega), if_pos c16] at hh; exact hh)
      · --
        refine v_iload_n aX2_firstFault_19 rfl ?_
        refine v_ireturn aX2_firstFault_20 rfl ⟨Nat.le_refl _, Nat.le_refl _⟩ ?_
        rw [if_pos (by omega), if_neg c16] at hh; exact hh
set_option maxHeartbeats 4000000 in
set_option maxRecDepth 100000 in
theorem c_X2_firstFault {sc : Int} (hP : PadS S b) (hn : 0 ≤ μ b 1 ∧ μ b 1 ≤ 40) (hs : 0 ≤ sc ∧ sc ≤ 6) (hg : ∀ i : Int, 0 ≤ i → i < 40 → -1000 ≤ μ (b + 1) i ∧ μ (b + 1) i ≤ 1000) : Ct l G cX2_firstFault (yX2_firstFault, 3, (some FieldType.int), 1, 0, 0) [.ref b, vi sc] S μ (Ri S (ffd (μ (b + 1)) sc (μ b 1) 41 0) μ) := by
  refine Ct.of (by decide) rfl (by simp [vi, Value.category]) (Nat.le_of_ble_eq_true rfl) ?_
  refine v_iconst aX2_firstFault_0 ?_
  refine v_istore_n aX2_firstFault_1 (by decide) rfl ?_
  exact l_X2_firstFault hP hn hs hg 41 0 (by omega) (by omega) ⟨rfl, rfl, rfl⟩
end PAD
