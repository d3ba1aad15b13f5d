/-! the relation of the class: reading the sayings -/
/-- the rows of masks g say R -/
def Rows (g : Int → Int) (R : Rl) : Prop := ∀ i : Int, 0 ≤ i → i < 6 → (0 ≤ g i ∧ (g i).toNat < 2 ^ 6) ∧ ∀ j : Int, 0 ≤ j → j < 6 → (tb (g i) j ↔ R i j)
theorem Rows.eq {g : Int → Int} {R R' : Rl} (h : Rows g R) (e : ∀ i j : Int, 0 ≤ i → i < 6 → 0 ≤ j → j < 6 → (R i j ↔ R' i j)) : Rows g R' := fun i i0 i6 => ⟨(h i i0 i6).1, fun j j0 j6 => ((h i i0 i6).2 j j0 j6).trans (e i j i0 i6 j0 j6)⟩
theorem Rows.or {g : Int → Int} {R : Rl} (h : Rows g R) {a x : Int} (ha : 0 ≤ a ∧ a < 6) (hx : 0 ≤ x ∧ x.toNat < 2 ^ 6) : Rows (iup g a (iOr (g a) x)) (fun i j => R i j ∨ (i = a ∧ tb x j)) := by
  intro i i0 i6
  by_cases e : i = a
  · subst e
    rw [iup_same]
    refine ⟨or_rng 6 (by decide) (h i i0 i6).1 hx, fun j j0 j6 => ?_⟩
    rw [tb_or, (h i i0 i6).2 j j0 j6]
    simp
  · rw [iup_ne e]
    refine ⟨(h i i0 i6).1, fun j j0 j6 => ?_⟩
    rw [(h i i0 i6).2 j j0 j6]
    simp [e]
theorem wsh_doml {R : Rl} {N : Int} (hd : ∀ a b, R a b → a = b ∨ (0 ≤ a ∧ a < N)) : ∀ (n : Nat) (i j : Int), wsh n R i j → i = j ∨ (0 ≤ i ∧ i < N)
  | 0, i, j, h => hd i j h
  | n + 1, i, j, h => by
    rcases h with h | ⟨h1, h2⟩
    · exact wsh_doml hd n i j h
    · rcases wsh_doml hd n _ _ h1 with e | e
      · rw [e]; exact wsh_doml hd n _ _ h2
      · exact Or.inr e
noncomputable def agn (R : Rl) (s o : Int) : Int := if b2i (R s o ∧ R o s) = 1 then 0 else if b2i (R s o) = 1 then 1 else if b2i (R o s) = 1 then 2 else -6
section RELC
variable {l : Launch} {G : Glb} {S : Sh} {μ : Mu} {b : Nat} {R : Rl}
set_option maxHeartbeats 4000000 in
set_option maxRecDepth 100000 in
theorem c_X4_isNoLess {s o : Int} (hR : RelS S b) (hr : Rows (μ (b + 1)) R) (hs : 0 ≤ s ∧ s < 6) (ho : 0 ≤ o ∧ o < 6) : Ct l G cX4_isNoLess (yX4_isNoLess, 3, (some FieldType.boolean), 0, 0, 0) [.ref b, vi s, vi o] S μ (Ri S (b2i (R s o)) μ) := by
  have e : tb (μ (b + 1) s) o ↔ R s o := (hr s hs.1 hs.2).2 o ho.1 ho.2
  have hb := b2i_r (p := tb (μ (b + 1) s) o)
  refine Ct.of (by decide) rfl (by simp [vi, Value.category]) (Nat.le_of_ble_eq_true rfl) ?_
  refine v_aload_n aX4_isNoLess_0 rfl ?_
  refine v_getr aX4_isNoLess_1 fX4_9 hR.p rfl rfl ?_
  refine v_iload_n aX4_isNoLess_4 rfl ?_
  refine v_iald aX4_isNoLess_5 hR.p_noLess (by omega) (by decide) ?_
  refine v_iload_n aX4_isNoLess_6 rfl ?_
  refine v_ishr aX4_isNoLess_7 ?_
  refine v_iconst aX4_isNoLess_8 ?_
  refine v_iand aX4_isNoLess_9 ?_
  refine v_top (bit01 (by omega)) ?_
  refine v_iconst aX4_isNoLess_10 ?_
  refine v_icmp_ne 18 rfl aX4_isNoLess_11 (by omega) (by omega) (fun c11 => ?_) (fun c11 => ?_)
  · --
    refine v_iconst aX4_isNoLess_18 ?_
    refine v_zreturn aX4_isNoLess_19 rfl ⟨Nat.le_refl _, Nat.le_refl _⟩ (by first | exact Or.inl rfl | exact Or.inr rfl | exact b2i_01 | omega) ?_
    first
      | exact ⟨by rw [b2i_t (e.mp (b2i_1.mp c11))], rfl, rfl⟩
      | exact ⟨by rw [b2i_f (fun q => c11 (b2i_t (e.mpr q)))], rfl, rfl⟩
  · --
    refine v_iconst aX4_isNoLess_14 ?_
    refine v_goto 19 rfl aX4_isNoLess_15 ?_
    refine v_zreturn aX4_isNoLess_19 rfl ⟨Nat.le_refl _, Nat.le_refl _⟩ (by first | exact Or.inl rfl | exact Or.inr rfl | exact b2i_01 | omega) ?_
    first
      | exact ⟨by rw [b2i_t (e.mp (b2i_1.mp c11))], rfl, rfl⟩
      | exact ⟨by rw [b2i_f (fun q => c11 (b2i_t (e.mpr q)))], rfl, rfl⟩
set_option maxHeartbeats 4000000 in
set_option maxRecDepth 100000 in
theorem c_X4_isAlike {s o : Int} (hR : RelS S b) (hr : Rows (μ (b + 1)) R) (hs : 0 ≤ s ∧ s < 6) (ho : 0 ≤ o ∧ o < 6) : Ct l G cX4_isAlike (yX4_isAlike, 3, (some FieldType.boolean), 1, 0, 0) [.ref b, vi s, vi o] S μ (Ri S (b2i (R s o ∧ R o s)) μ) := by
  refine Ct.of (by decide) rfl (by simp [vi, Value.category]) (Nat.le_of_ble_eq_true rfl) ?_
  refine v_aload_n aX4_isAlike_0 rfl ?_
  refine v_iload_n aX4_isAlike_1 rfl ?_
  refine v_iload_n aX4_isAlike_2 rfl ?_
  refine v_cVi (c_X4_isNoLess hR hr (by omega) (by omega)) aX4_isAlike_3 mX4_isNoLess vX4_isNoLess lX4_50 hR.p rfl rfl rfl rfl rfl (Nat.le_of_ble_eq_true rfl) ⟨Nat.le_of_ble_eq_true rfl, Nat.le_of_ble_eq_true rfl⟩ (Nat.le_of_ble_eq_true rfl) ?_
  refine v_if_eq_b 22 rfl aX4_isAlike_6 (fun c6 => ?_) (fun c6 => ?_)
  · --
    refine v_iconst aX4_isAlike_22 ?_
    refine v_zreturn aX4_isAlike_23 rfl ⟨Nat.le_refl _, Nat.le_refl _⟩ (by first | exact Or.inl rfl | exact Or.inr rfl | exact b2i_01 | omega) ?_
    first
      | exact ⟨congrArg (fun z => some (vi z)) (b2i_t ⟨c6, c15⟩).symm, rfl, rfl⟩
      | exact ⟨congrArg (fun z => some (vi z)) (b2i_f (fun q => c6 q.1)).symm, rfl, rfl⟩
      | exact ⟨congrArg (fun z => some (vi z)) (b2i_f (fun q => c15 q.2)).symm, rfl, rfl⟩
  · --
    refine v_aload_n aX4_isAlike_9 rfl ?_
    refine v_iload_n aX4_isAlike_10 rfl ?_
    refine v_iload_n aX4_isAlike_11 rfl ?_
    refine v_cVi (c_X4_isNoLess hR hr (by omega) (by omega)) aX4_isAlike_12 mX4_isNoLess vX4_isNoLess lX4_50 hR.p rfl rfl rfl rfl rfl (Nat.le_of_ble_eq_true rfl) ⟨Nat.le_of_ble_eq_true rfl, Nat.le_of_ble_eq_true rfl⟩ (Nat.le_of_ble_eq_true rfl) ?_
    refine v_if_eq_b 22 rfl aX4_isAlike_15 (fun c15 => ?_) (fun c15 => ?_)
    · --
      refine v_iconst aX4_isAlike_22 ?_
      refine v_zreturn aX4_isAlike_23 rfl ⟨Nat.le_refl _, Nat.le_refl _⟩ (by first | exact Or.inl rfl | exact Or.inr rfl | exact b2i_01 | omega) ?_
      first
        | exact ⟨congrArg (fun z => some (vi z)) (b2i_t ⟨c6, c15⟩).symm, rfl, rfl⟩
        | exact ⟨congrArg (fun z => some (vi z)) (b2i_f (fun q => c6 q.1)).symm, rfl, rfl⟩
        | exact ⟨congrArg (fun z => some (vi z)) (b2i_f (fun q => c15 q.2)).symm, rfl, rfl⟩
    · --
      refine v_iconst aX4_isAlike_18 ?_
      refine v_goto 23 rfl aX4_isAlike_19 ?_
      refine v_zreturn aX4_isAlike_23 rfl ⟨Nat.le_refl _, Nat.le_refl _⟩ (by first | exact Or.inl rfl | exact Or.inr rfl | exact b2i_01 | omega) ?_
      first
        | exact ⟨congrArg (fun z => some (vi z)) (b2i_t ⟨c6, c15⟩).symm, rfl, rfl⟩
        | exact ⟨congrArg (fun z => some (vi z)) (b2i_f (fun q => c6 q.1)).symm, rfl, rfl⟩
        | exact ⟨congrArg (fun z => some (vi z)) (b2i_f (fun q => c15 q.2)).symm, rfl, rfl⟩
set_option maxHeartbeats 4000000 in
set_option maxRecDepth 100000 in
theorem c_X4_isHeavier {s o : Int} (hR : RelS S b) (hr : Rows (μ (b + 1)) R) (hs : 0 ≤ s ∧ s < 6) (ho : 0 ≤ o ∧ o < 6) : Ct l G cX4_isHeavier (yX4_isHeavier, 3, (some FieldType.boolean), 1, 0, 0) [.ref b, vi s, vi o] S μ (Ri S (b2i (R s o ∧ ¬ R o s)) μ) := by
  refine Ct.of (by decide) rfl (by simp [vi, Value.category]) (Nat.le_of_ble_eq_true rfl) ?_
  refine v_aload_n aX4_isHeavier_0 rfl ?_
  refine v_iload_n aX4_isHeavier_1 rfl ?_
  refine v_iload_n aX4_isHeavier_2 rfl ?_
  refine v_cVi (c_X4_isNoLess hR hr (by omega) (by omega)) aX4_isHeavier_3 mX4_isNoLess vX4_isNoLess lX4_50 hR.p rfl rfl rfl rfl rfl (Nat.le_of_ble_eq_true rfl) ⟨Nat.le_of_ble_eq_true rfl, Nat.le_of_ble_eq_true rfl⟩ (Nat.le_of_ble_eq_true rfl) ?_
  refine v_if_eq_b 22 rfl aX4_isHeavier_6 (fun c6 => ?_) (fun c6 => ?_)
  · --
    refine v_iconst aX4_isHeavier_22 ?_
    refine v_zreturn aX4_isHeavier_23 rfl ⟨Nat.le_refl _, Nat.le_refl _⟩ (by first | exact Or.inl rfl | exact Or.inr rfl | exact b2i_01 | omega) ?_
    first
      | exact ⟨congrArg (fun z => some (vi z)) (b2i_t ⟨c6, c15⟩).symm, rfl, rfl⟩
      | exact ⟨congrArg (fun z => some (vi z)) (b2i_f (fun q => c6 q.1)).symm, rfl, rfl⟩
      | exact ⟨congrArg (fun z => some (vi z)) (b2i_f (fun q => q.2 c15)).symm, rfl, rfl⟩
  · --
    refine v_aload_n aX4_isHeavier_9 rfl ?_
    refine v_iload_n aX4_isHeavier_10 rfl ?_
    refine v_iload_n aX4_isHeavier_11 rfl ?_
    refine v_cVi (c_X4_isNoLess hR hr (by omega) (by omega)) aX4_isHeavier_12 mX4_isNoLess vX4_isNoLess lX4_50 hR.p rfl rfl rfl rfl rfl (Nat.le_of_ble_eq_true rfl) ⟨Nat.le_of_ble_eq_true rfl, Nat.le_of_ble_eq_true rfl⟩ (Nat.le_of_ble_eq_true rfl) ?_
    refine v_if_ne_b 22 rfl aX4_isHeavier_15 (fun c15 => ?_) (fun c15 => ?_)
    · --
      refine v_iconst aX4_isHeavier_22 ?_
      refine v_zreturn aX4_isHeavier_23 rfl ⟨Nat.le_refl _, Nat.le_refl _⟩ (by first | exact Or.inl rfl | exact Or.inr rfl | exact b2i_01 | omega) ?_
      first
        | exact ⟨congrArg (fun z => some (vi z)) (b2i_t ⟨c6, c15⟩).symm, rfl, rfl⟩
        | exact ⟨congrArg (fun z => some (vi z)) (b2i_f (fun q => c6 q.1)).symm, rfl, rfl⟩
        | exact ⟨congrArg (fun z => some (vi z)) (b2i_f (fun q => q.2 c15)).symm, rfl, rfl⟩
    · --
      refine v_iconst aX4_isHeavier_18 ?_
      refine v_goto 23 rfl aX4_isHeavier_19 ?_
      refine v_zreturn aX4_isHeavier_23 rfl ⟨Nat.le_refl _, Nat.le_refl _⟩ (by first | exact Or.inl rfl | exact Or.inr rfl | exact b2i_01 | omega) ?_
      first
        | exact ⟨congrArg (fun z => some (vi z)) (b2i_t ⟨c6, c15⟩).symm, rfl, rfl⟩
        | exact ⟨congrArg (fun z => some (vi z)) (b2i_f (fun q => c6 q.1)).symm, rfl, rfl⟩
        | exact ⟨congrArg (fun z => some (vi z)) (b2i_f (fun q => q.2 c15)).symm, rfl, rfl⟩
set_option maxHeartbeats 4000000 in
set_option maxRecDepth 100000 in
theorem c_X4_against {s o : Int} (hR : RelS S b) (hr : Rows (μ (b + 1)) R) (hs : 0 ≤ s ∧ s < 6) (ho : 0 ≤ o ∧ o < 6) : Ct l G cX4_against (yX4_against, 3, (some FieldType.int), 2, 0, 0) [.ref b, vi s, vi o] S μ (Ri S (agn R s o) μ) := by
  refine Ct.of (by decide) rfl (by simp [vi, Value.category]) (Nat.le_of_ble_eq_true rfl) ?_
  refine v_aload_n aX4_against_0 rfl ?_
  refine v_iload_n aX4_against_1 rfl ?_
  refine v_iload_n aX4_against_2 rfl ?_
  refine v_cVi (c_X4_isAlike hR hr (by omega) (by omega)) aX4_against_3 mX4_isAlike vX4_isAlike lX4_54 hR.p rfl rfl rfl rfl rfl (Nat.le_of_ble_eq_true rfl) ⟨Nat.le_of_ble_eq_true rfl, Nat.le_of_ble_eq_true rfl⟩ (Nat.le_of_ble_eq_true rfl) ?_
  refine v_if_eq_b 11 rfl aX4_against_6 (fun c6 => ?_) (fun c6 => ?_)
  · --
    refine v_aload_n aX4_against_11 rfl ?_
    refine v_iload_n aX4_against_12 rfl ?_
    refine v_iload_n aX4_against_13 rfl ?_
    refine v_cVi (c_X4_isNoLess hR hr (by omega) (by omega)) aX4_against_14 mX4_isNoLess vX4_isNoLess lX4_50 hR.p rfl rfl rfl rfl rfl (Nat.le_of_ble_eq_true rfl) ⟨Nat.le_of_ble_eq_true rfl, Nat.le_of_ble_eq_true rfl⟩ (Nat.le_of_ble_eq_true rfl) ?_
    refine v_if_eq_b 22 rfl aX4_against_17 (fun c17 => ?_) (fun c17 => ?_)
    · --
      refine v_aload_n aX4_against_22 rfl ?_
      refine v_iload_n aX4_against_23 rfl ?_
      refine v_iload_n aX4_against_24 rfl ?_
      refine v_cVi (c_X4_isNoLess hR hr (by omega) (by omega)) aX4_against_25 mX4_isNoLess vX4_isNoLess lX4_50 hR.p rfl rfl rfl rfl rfl (Nat.le_of_ble_eq_true rfl) ⟨Nat.le_of_ble_eq_true rfl, Nat.le_of_ble_eq_true rfl⟩ (Nat.le_of_ble_eq_true rfl) ?_
      refine v_if_eq_b 35 rfl aX4_against_28 (fun c28 => ?_) (fun c28 => ?_)
      · --
        refine v_bipush (by decide) aX4_against_35 ?_
        refine v_ireturn aX4_against_37 rfl ⟨Nat.le_refl _, Nat.le_refl _⟩ ?_
        refine ⟨?_, rfl, rfl⟩
        unfold agn
        first
          | rw [if_neg (fun q => c6 (b2i_1.mp q)), if_neg (fun q => c17 (b2i_1.mp q)), if_pos (b2i_t c28)]
          | rw [if_neg (fun q => c6 (b2i_1.mp q)), if_neg (fun q => c17 (b2i_1.mp q)), if_neg (fun q => c28 (b2i_1.mp q))]
      · --
        refine v_iconst aX4_against_31 ?_
        refine v_goto 37 rfl aX4_against_32 ?_
        refine v_ireturn aX4_against_37 rfl ⟨Nat.le_refl _, Nat.le_refl _⟩ ?_
        refine ⟨?_, rfl, rfl⟩
        unfold agn
        first
          | rw [if_neg (fun q => c6 (b2i_1.mp q)), if_neg (fun q => c17 (b2i_1.mp q)), if_pos (b2i_t c28)]
          | rw [if_neg (fun q => c6 (b2i_1.mp q)), if_neg (fun q => c17 (b2i_1.mp q)), if_neg (fun q => c28 (b2i_1.mp q))]
    · --
      refine v_iconst aX4_against_20 ?_
      refine v_ireturn aX4_against_21 rfl ⟨Nat.le_refl _, Nat.le_refl _⟩ ?_
      refine ⟨?_, rfl, rfl⟩
      unfold agn
      rw [if_neg (fun q => c6 (b2i_1.mp q)), if_pos (b2i_t c17)]
  · --
    refine v_iconst aX4_against_9 ?_
    refine v_ireturn aX4_against_10 rfl ⟨Nat.le_refl _, Nat.le_refl _⟩ ?_
    refine ⟨?_, rfl, rfl⟩
    unfold agn
    rw [if_pos (b2i_t c6)]
set_option maxHeartbeats 4000000 in
set_option maxRecDepth 100000 in
theorem c_X4_believe (hR : RelS S b) (hr : Rows (μ (b + 1)) R) {q : Nat} (hq : S.2 q = some (aI 5)) (hqn : q ≠ b + 1) (hs : 0 ≤ μ q 0 ∧ μ q 0 < 6) (hp : 0 ≤ μ q 1 ∧ μ q 1 < 6) (hh : 0 ≤ μ q 2 ∧ μ q 2 ≤ 2) : Ct l G cX4_believe (yX4_believe, 4, none, 0, 0, 0) [.ref b, .ref q] S μ (Rw S (fun μ' => ∃ g', μ' = row μ (b + 1) g' ∧ Rows g' (fun i j => R i j ∨ ((i = μ q 0 ∧ j = μ q 1 ∧ μ q 2 ≠ 2) ∨ (i = μ q 1 ∧ j = μ q 0 ∧ μ q 2 ≠ 1))))) := by
  have x1 := shl1_rng (i := μ q 1) 6 (by decide) (by omega)
  have x0 := shl1_rng (i := μ q 0) 6 (by decide) (by omega)
  have y1 : ∀ j : Int, 0 ≤ j → j < 6 → (tb (iShl 1 (μ q 1)) j ↔ j = μ q 1) := fun j j0 j6 => tb_shl1 (by omega) (by omega)
  have y0 : ∀ j : Int, 0 ≤ j → j < 6 → (tb (iShl 1 (μ q 0)) j ↔ j = μ q 0) := fun j j0 j6 => tb_shl1 (by omega) (by omega)
  have k1 := hr.or hs x1
  have k2 := hr.or hp x0
  have k3 := k1.or hp x0
  refine Ct.of (by decide) rfl (by simp [vi, Value.category]) (Nat.le_of_ble_eq_true rfl) ?_
  refine v_aload_n aX4_believe_0 rfl ?_
  refine v_iconst aX4_believe_1 ?_
  refine v_iald aX4_believe_2 hq (by omega) (by decide) ?_
  refine v_istore_n aX4_believe_3 (by decide) rfl ?_
  refine v_aload_n aX4_believe_4 rfl ?_
  refine v_iconst aX4_believe_5 ?_
  refine v_iald aX4_believe_6 hq (by omega) (by decide) ?_
  refine v_istore_n aX4_believe_7 (by decide) rfl ?_
  refine v_aload_n aX4_believe_8 rfl ?_
  refine v_iconst aX4_believe_9 ?_
  refine v_iald aX4_believe_10 hq (by omega) (by decide) ?_
  refine v_iconst aX4_believe_11 ?_
  refine v_icmp_eq 27 rfl aX4_believe_12 (by omega) (by omega) (fun c12 => ?_) (fun c12 => ?_)
  · --
    try rw [upd2_iup]
    refine v_aload_n aX4_believe_27 rfl ?_
    refine v_iconst aX4_believe_28 ?_
    refine v_iald aX4_believe_29 hq (by omega) (by decide) ?_
    try rw [row_ne hqn]
    refine v_iconst aX4_believe_30 ?_
    refine v_icmp_eq 46 rfl aX4_believe_31 (by omega) (by omega) (fun c31 => ?_) (fun c31 => ?_)
    · --
      refine v_return aX4_believe_46 rfl ⟨Nat.le_refl _, Nat.le_refl _⟩ ?_
      first
        | (exfalso; omega)
        | exact ⟨rfl, rfl, _, upd2_iup, k2.eq (fun i j i0 i6 j0 j6 => by rw [y0 j j0 j6]; simp [c12, c31])⟩
        | exact ⟨rfl, rfl, _, rfl, k1.eq (fun i j i0 i6 j0 j6 => by rw [y1 j j0 j6]; simp [c12, c31])⟩
        | exact ⟨rfl, rfl, _, upd2_iup.trans (by rw [row_same, row_row]), k3.eq (fun i j i0 i6 j0 j6 => by rw [y1 j j0 j6, y0 j j0 j6]; simp [c12, c31, or_assoc])⟩
    · --
      refine v_aload_n aX4_believe_34 rfl ?_
      refine v_getr aX4_believe_35 fX4_9 hR.p rfl rfl ?_
      refine v_iload_n aX4_believe_38 rfl ?_
      refine v_dup2 rfl rfl aX4_believe_39 ?_
      refine v_iald aX4_believe_40 hR.p_noLess (by omega) (by decide) ?_
      try rw [row_same]
      refine v_iconst aX4_believe_41 ?_
      refine v_iload_n aX4_believe_42 rfl ?_
      refine v_ishl aX4_believe_43 ?_
      refine v_ior aX4_believe_44 ?_
      refine v_iast aX4_believe_45 hR.p_noLess (by omega) (by decide) ?_
      refine v_return aX4_believe_46 rfl ⟨Nat.le_refl _, Nat.le_refl _⟩ ?_
      first
        | (exfalso; omega)
        | exact ⟨rfl, rfl, _, upd2_iup, k2.eq (fun i j i0 i6 j0 j6 => by rw [y0 j j0 j6]; simp [c12, c31])⟩
        | exact ⟨rfl, rfl, _, rfl, k1.eq (fun i j i0 i6 j0 j6 => by rw [y1 j j0 j6]; simp [c12, c31])⟩
        | exact ⟨rfl, rfl, _, upd2_iup.trans (by rw [row_same, row_row]), k3.eq (fun i j i0 i6 j0 j6 => by rw [y1 j j0 j6, y0 j j0 j6]; simp [c12, c31, or_assoc])⟩
  · --
    refine v_aload_n aX4_believe_15 rfl ?_
    refine v_getr aX4_believe_16 fX4_9 hR.p rfl rfl ?_
    refine v_iload_n aX4_believe_19 rfl ?_
    refine v_dup2 rfl rfl aX4_believe_20 ?_
    refine v_iald aX4_believe_21 hR.p_noLess (by omega) (by decide) ?_
    refine v_iconst aX4_believe_22 ?_
    refine v_iload_n aX4_believe_23 rfl ?_
    refine v_ishl aX4_believe_24 ?_
    refine v_ior aX4_believe_25 ?_
    refine v_iast aX4_believe_26 hR.p_noLess (by omega) (by decide) ?_
    try rw [upd2_iup]
    refine v_aload_n aX4_believe_27 rfl ?_
    refine v_iconst aX4_believe_28 ?_
    refine v_iald aX4_believe_29 hq (by omega) (by decide) ?_
    try rw [row_ne hqn]
    refine v_iconst aX4_believe_30 ?_
    refine v_icmp_eq 46 rfl aX4_believe_31 (by omega) (by omega) (fun c31 => ?_) (fun c31 => ?_)
    · --
      refine v_return aX4_believe_46 rfl ⟨Nat.le_refl _, Nat.le_refl _⟩ ?_
      first
        | (exfalso; omega)
        | exact ⟨rfl, rfl, _, upd2_iup, k2.eq (fun i j i0 i6 j0 j6 => by rw [y0 j j0 j6]; simp [c12, c31])⟩
        | exact ⟨rfl, rfl, _, rfl, k1.eq (fun i j i0 i6 j0 j6 => by rw [y1 j j0 j6]; simp [c12, c31])⟩
        | exact ⟨rfl, rfl, _, upd2_iup.trans (by rw [row_same, row_row]), k3.eq (fun i j i0 i6 j0 j6 => by rw [y1 j j0 j6, y0 j j0 j6]; simp [c12, c31, or_assoc])⟩
    · --
      refine v_aload_n aX4_believe_34 rfl ?_
      refine v_getr aX4_believe_35 fX4_9 hR.p rfl rfl ?_
      refine v_iload_n aX4_believe_38 rfl ?_
      refine v_dup2 rfl rfl aX4_believe_39 ?_
      refine v_iald aX4_believe_40 hR.p_noLess (by omega) (by decide) ?_
      try rw [row_same]
      refine v_iconst aX4_believe_41 ?_
      refine v_iload_n aX4_believe_42 rfl ?_
      refine v_ishl aX4_believe_43 ?_
      refine v_ior aX4_believe_44 ?_
      refine v_iast aX4_believe_45 hR.p_noLess (by omega) (by decide) ?_
      refine v_return aX4_believe_46 rfl ⟨Nat.le_refl _, Nat.le_refl _⟩ ?_
      first
        | (exfalso; omega)
        | exact ⟨rfl, rfl, _, upd2_iup, k2.eq (fun i j i0 i6 j0 j6 => by rw [y0 j j0 j6]; simp [c12, c31])⟩
        | exact ⟨rfl, rfl, _, rfl, k1.eq (fun i j i0 i6 j0 j6 => by rw [y1 j j0 j6]; simp [c12, c31])⟩
        | exact ⟨rfl, rfl, _, upd2_iup.trans (by rw [row_same, row_row]), k3.eq (fun i j i0 i6 j0 j6 => by rw [y1 j j0 j6, y0 j j0 j6]; simp [c12, c31, or_assoc])⟩
set_option maxHeartbeats 4000000 in
set_option maxRecDepth 100000 in
theorem c_X4_contradicts (hR : RelS S b) (hr : Rows (μ (b + 1)) R) {q : Nat} (hq : S.2 q = some (aI 5)) (hqn : q ≠ b + 1) (hs : 0 ≤ μ q 0 ∧ μ q 0 < 6) (hp : 0 ≤ μ q 1 ∧ μ q 1 < 6) (hh : 0 ≤ μ q 2 ∧ μ q 2 ≤ 2) : Ct l G cX4_contradicts (yX4_contradicts, 2, (some FieldType.boolean), 1, 0, 0) [.ref b, .ref q] S μ (Ri S (b2i ((μ q 2 = 1 ∧ R (μ q 1) (μ q 0)) ∨ (μ q 2 = 2 ∧ R (μ q 0) (μ q 1)))) μ) := by
  refine Ct.of (by decide) rfl (by simp [vi, Value.category]) (Nat.le_of_ble_eq_true rfl) ?_
  refine v_aload_n aX4_contradicts_0 rfl ?_
  refine v_iconst aX4_contradicts_1 ?_
  refine v_iald aX4_contradicts_2 hq (by omega) (by decide) ?_
  refine v_iconst aX4_contradicts_3 ?_
  refine v_icmp_ne 18 rfl aX4_contradicts_4 (by omega) (by omega) (fun c4 => ?_) (fun c4 => ?_)
  · --
    refine v_aload_n aX4_contradicts_18 rfl ?_
    refine v_iconst aX4_contradicts_19 ?_
    refine v_iald aX4_contradicts_20 hq (by omega) (by decide) ?_
    refine v_iconst aX4_contradicts_21 ?_
    refine v_icmp_ne 42 rfl aX4_contradicts_22 (by omega) (by omega) (fun c22 => ?_) (fun c22 => ?_)
    · --
      refine v_iconst aX4_contradicts_42 ?_
      refine v_zreturn aX4_contradicts_43 rfl ⟨Nat.le_refl _, Nat.le_refl _⟩ (by first | exact Or.inl rfl | exact Or.inr rfl | exact b2i_01 | omega) ?_
      exact ⟨congrArg (fun z => some (vi z)) (b2i_f (fun q => q.elim (fun z => c4 z.1) (fun z => c22 z.1))).symm, rfl, rfl⟩
    · --
      refine v_aload_n aX4_contradicts_25 rfl ?_
      refine v_aload_n aX4_contradicts_26 rfl ?_
      refine v_iconst aX4_contradicts_27 ?_
      refine v_iald aX4_contradicts_28 hq (by omega) (by decide) ?_
      refine v_aload_n aX4_contradicts_29 rfl ?_
      refine v_iconst aX4_contradicts_30 ?_
      refine v_iald aX4_contradicts_31 hq (by omega) (by decide) ?_
      refine v_cVi (c_X4_isNoLess hR hr (by omega) (by omega)) aX4_contradicts_32 mX4_isNoLess vX4_isNoLess lX4_50 hR.p rfl rfl rfl rfl rfl (Nat.le_of_ble_eq_true rfl) ⟨Nat.le_of_ble_eq_true rfl, Nat.le_of_ble_eq_true rfl⟩ (Nat.le_of_ble_eq_true rfl) ?_
      refine v_if_eq_b 42 rfl aX4_contradicts_35 (fun c35 => ?_) (fun c35 => ?_)
      · --
        refine v_iconst aX4_contradicts_42 ?_
        refine v_zreturn aX4_contradicts_43 rfl ⟨Nat.le_refl _, Nat.le_refl _⟩ (by first | exact Or.inl rfl | exact Or.inr rfl | exact b2i_01 | omega) ?_
        exact ⟨congrArg (fun z => some (vi z)) (b2i_f (fun q => q.elim (fun z => c4 z.1) (fun z => c35 z.2))).symm, rfl, rfl⟩
      · --
        refine v_iconst aX4_contradicts_38 ?_
        refine v_goto 43 rfl aX4_contradicts_39 ?_
        refine v_zreturn aX4_contradicts_43 rfl ⟨Nat.le_refl _, Nat.le_refl _⟩ (by first | exact Or.inl rfl | exact Or.inr rfl | exact b2i_01 | omega) ?_
        exact ⟨congrArg (fun z => some (vi z)) (b2i_t (Or.inr ⟨c22, c35⟩)).symm, rfl, rfl⟩
  · --
    refine v_aload_n aX4_contradicts_7 rfl ?_
    refine v_aload_n aX4_contradicts_8 rfl ?_
    refine v_iconst aX4_contradicts_9 ?_
    refine v_iald aX4_contradicts_10 hq (by omega) (by decide) ?_
    refine v_aload_n aX4_contradicts_11 rfl ?_
    refine v_iconst aX4_contradicts_12 ?_
    refine v_iald aX4_contradicts_13 hq (by omega) (by decide) ?_
    refine v_cVi (c_X4_isNoLess hR hr (by omega) (by omega)) aX4_contradicts_14 mX4_isNoLess vX4_isNoLess lX4_50 hR.p rfl rfl rfl rfl rfl (Nat.le_of_ble_eq_true rfl) ⟨Nat.le_of_ble_eq_true rfl, Nat.le_of_ble_eq_true rfl⟩ (Nat.le_of_ble_eq_true rfl) ?_
    refine v_zreturn aX4_contradicts_17 rfl ⟨Nat.le_refl _, Nat.le_refl _⟩ (by first | exact Or.inl rfl | exact Or.inr rfl | exact b2i_01 | omega) ?_
    exact ⟨congrArg (fun z => some (vi z)) (b2i_c ⟨fun q => Or.inl ⟨c4, q⟩, fun q => q.elim (fun z => z.2) (fun z => absurd z.1 (by omega))⟩), rfl, rfl⟩
set_option maxHeartbeats 4000000 in
set_option maxRecDepth 100000 in
theorem li_X4_close {μ0 : Mu} {k : Int} {P : Pst} (hR : RelS S b) (hn : 0 ≤ μ0 b 2 ∧ μ0 b 2 ≤ 6) (hk : 0 ≤ k ∧ k < μ0 b 2) (hd : ∀ a j, R a j → a = j ∨ (0 ≤ a ∧ a < μ0 b 2)) (hh : ∀ g : Int → Int, Rows g (wsh (k.toNat + 1) R) → ∀ L : List Value, V l G cX4_close (yX4_close, 3, none, 1, 0, 0) P (0, 0) S (row μ0 (b + 1) g) 50 (.ref b :: vi k :: L) []) : ∀ (N : Nat) (i : Int) (g : Int → Int), (0 ≤ i ∧ i ≤ μ0 b 2) → μ0 b 2 - i < N → Rows g (fun a j => wsh k.toNat R a j ∨ (a < i ∧ wsh k.toNat R a k ∧ wsh k.toNat R k j)) → V l G cX4_close (yX4_close, 3, none, 1, 0, 0) P (0, 0) S (row μ0 (b + 1) g) 12 [.ref b, vi k, vi i] [] := by
  have hkk : ((k.toNat : Nat) : Int) = k := by omega
  intro N
  induction N with
  | zero => intro i g h0 h1; omega
  | succ N ih =>
    intro i g h0 h1 hg
    have hs2 : row μ0 (b + 1) g b 2 = μ0 b 2 := by rw [row_ne (by omega)]
    have hg' : Rows (row μ0 (b + 1) g (b + 1)) (fun a j => wsh k.toNat R a j ∨ (a < i ∧ wsh k.toNat R a k ∧ wsh k.toNat R k j)) := by rw [row_same]; exact hg
    refine v_iload_n aX4_close_12 rfl ?_
    refine v_aload_n aX4_close_13 rfl ?_
    refine v_gi 2 rfl aX4_close_14 fX4_24 hR.p rfl rfl ?_
    rw [hs2]
    refine v_icmp_ge 50 rfl aX4_close_17 (by omega) (by omega) (fun c17 => ?_) (fun c17 => ?_)
    · --
      refine hh g (hg.eq (fun a j a0 a6 j0 j6 => ?_)) _
      show _ ↔ wsh k.toNat R a j ∨ (wsh k.toNat R a (k.toNat : Int) ∧ wsh k.toNat R (k.toNat : Int) j)
      rw [hkk]
      constructor
      · rintro (q | ⟨q1, q2, q3⟩)
        · exact Or.inl q
        · exact Or.inr ⟨q2, q3⟩
      · rintro (q | ⟨q2, q3⟩)
        · exact Or.inl q
        · rcases wsh_doml hd k.toNat a k q2 with e | e
          · exact Or.inr ⟨by omega, q2, q3⟩
          · exact Or.inr ⟨by omega, q2, q3⟩
    · --
      refine v_aload_n aX4_close_20 rfl ?_
      refine v_iload_n aX4_close_21 rfl ?_
      refine v_iload_n aX4_close_22 rfl ?_
      refine v_cVi (c_X4_isNoLess hR hg' (by omega) (by omega)) aX4_close_23 mX4_isNoLess vX4_isNoLess lX4_50 hR.p rfl rfl rfl rfl rfl (Nat.le_of_ble_eq_true rfl) ⟨Nat.le_of_ble_eq_true rfl, Nat.le_of_ble_eq_true rfl⟩ (Nat.le_of_ble_eq_true rfl) ?_
      refine v_if_eq_b 44 rfl aX4_close_26 (fun c26 => ?_) (fun c26 => ?_)
      · --
        refine v_iinc aX4_close_44 rfl (by decide) rfl ?_
        refine v_goto 12 rfl aX4_close_47 ?_
        first
          | (refine v_mu (upd2_iup.trans (by rw [row_same, row_row])) ?_
             refine ih (i + 1) _ (by omega) (by omega) ?_
             have hx := hg.or (a := i) (x := g k) (by omega) (hg k (by omega) (by omega)).1
             refine hx.eq (fun a j a0 a6 j0 j6 => ?_)
             have e1 := (hg k (by omega) (by omega)).2 j j0 j6
             rw [e1]
             constructor
             · rintro ((q | ⟨q1, q2⟩) | ⟨q1, q2⟩)
               · exact Or.inl q
               · exact Or.inr ⟨by omega, q2⟩
               · subst q1
                 have c26' : wsh k.toNat R a k := by rcases c26 with q | q; exact q; exact q.2.1
                 refine Or.inr ⟨by omega, c26', ?_⟩
                 rcases q2 with q2 | ⟨-, -, q2⟩ <;> exact q2
             · rintro (q | ⟨q1, q2, q3⟩)
               · exact Or.inl (Or.inl q)
               · by_cases e : a = i
                 · exact Or.inr ⟨e, Or.inl q3⟩
                 · exact Or.inl (Or.inr ⟨by omega, q2, q3⟩))
          | (refine ih (i + 1) _ (by omega) (by omega) (hg.eq (fun a j a0 a6 j0 j6 => ?_))
             constructor
             · rintro (q | ⟨q1, q2⟩)
               · exact Or.inl q
               · exact Or.inr ⟨by omega, q2⟩
             · rintro (q | ⟨q1, q2, q3⟩)
               · exact Or.inl q
               · by_cases e : a = i
                 · subst e
                   exact absurd (Or.inl q2) c26
                 · exact Or.inr ⟨by omega, q2, q3⟩)
      · --
        refine v_aload_n aX4_close_29 rfl ?_
        refine v_getr aX4_close_30 fX4_9 hR.p rfl rfl ?_
        refine v_iload_n aX4_close_33 rfl ?_
        refine v_dup2 rfl rfl aX4_close_34 ?_
        refine v_iald aX4_close_35 hR.p_noLess (by omega) (by decide) ?_
        rw [row_same]
        refine v_aload_n aX4_close_36 rfl ?_
        refine v_getr aX4_close_37 fX4_9 hR.p rfl rfl ?_
        refine v_iload_n aX4_close_40 rfl ?_
        refine v_iald aX4_close_41 hR.p_noLess (by omega) (by decide) ?_
        rw [row_same]
        refine v_ior aX4_close_42 ?_
        refine v_iast aX4_close_43 hR.p_noLess (by omega) (by decide) ?_
        refine v_iinc aX4_close_44 rfl (by decide) rfl ?_
        refine v_goto 12 rfl aX4_close_47 ?_
        first
          | (refine v_mu (upd2_iup.trans (by rw [row_same, row_row])) ?_
             refine ih (i + 1) _ (by omega) (by omega) ?_
             have hx := hg.or (a := i) (x := g k) (by omega) (hg k (by omega) (by omega)).1
             refine hx.eq (fun a j a0 a6 j0 j6 => ?_)
             have e1 := (hg k (by omega) (by omega)).2 j j0 j6
             rw [e1]
             constructor
             · rintro ((q | ⟨q1, q2⟩) | ⟨q1, q2⟩)
               · exact Or.inl q
               · exact Or.inr ⟨by omega, q2⟩
               · subst q1
                 have c26' : wsh k.toNat R a k := by rcases c26 with q | q; exact q; exact q.2.1
                 refine Or.inr ⟨by omega, c26', ?_⟩
                 rcases q2 with q2 | ⟨-, -, q2⟩ <;> exact q2
             · rintro (q | ⟨q1, q2, q3⟩)
               · exact Or.inl (Or.inl q)
               · by_cases e : a = i
                 · exact Or.inr ⟨e, Or.inl q3⟩
                 · exact Or.inl (Or.inr ⟨by omega, q2, q3⟩))
          | (refine ih (i + 1) _ (by omega) (by omega) (hg.eq (fun a j a0 a6 j0 j6 => ?_))
             constructor
             · rintro (q | ⟨q1, q2⟩)
               · exact Or.inl q
               · exact Or.inr ⟨by omega, q2⟩
             · rintro (q | ⟨q1, q2, q3⟩)
               · exact Or.inl q
               · by_cases e : a = i
                 · subst e
                   exact absurd (Or.inl q2) c26
                 · exact Or.inr ⟨by omega, q2, q3⟩)
set_option maxHeartbeats 4000000 in
set_option maxRecDepth 100000 in
theorem lo_X4_close {μ0 : Mu} {P : Pst} (hR : RelS S b) (hn : 0 ≤ μ0 b 2 ∧ μ0 b 2 ≤ 6) (hd : ∀ a j, R a j → a = j ∨ (0 ≤ a ∧ a < μ0 b 2)) (hh : ∀ g : Int → Int, Rows g (wsh (μ0 b 2).toNat R) → P none S (row μ0 (b + 1) g)) : ∀ (N : Nat) (k : Int) (g : Int → Int) (L : List Value), (0 ≤ k ∧ k ≤ μ0 b 2) → μ0 b 2 - k < N → Rows g (wsh k.toNat R) → (L = [.ref b, vi k] ∨ ∃ a, L = [.ref b, vi k, vi a]) → V l G cX4_close (yX4_close, 3, none, 1, 0, 0) P (0, 0) S (row μ0 (b + 1) g) 2 L [] := by
  intro N
  induction N with
  | zero => intro k g L h0 h1; omega
  | succ N ih =>
    intro k g L h0 h1 hg hL
    have hs2 : row μ0 (b + 1) g b 2 = μ0 b 2 := by rw [row_ne (by omega)]
    have hL2 : V l G cX4_close (yX4_close, 3, none, 1, 0, 0) P (0, 0) S (row μ0 (b + 1) g) 2 [.ref b, vi k] [] := by
      refine v_iload_n aX4_close_2 rfl ?_
      refine v_aload_n aX4_close_3 rfl ?_
      refine v_gi 2 rfl aX4_close_4 fX4_24 hR.p rfl rfl ?_
      rw [hs2]
      refine v_icmp_ge 56 rfl aX4_close_7 (by omega) (by omega) (fun c7 => ?_) (fun c7 => ?_)
      · --
        refine v_return aX4_close_56 rfl ⟨Nat.le_refl _, Nat.le_refl _⟩ ?_
        obtain rfl : k = μ0 b 2 := by omega
        exact hh g hg
      · --
        refine v_iconst aX4_close_10 ?_
        refine v_istore_n aX4_close_11 (by decide) rfl ?_
        refine li_X4_close (R := R) hR hn (by omega) hd (fun g' hg' L' => ?_) 7 0 g (by omega) (by omega) (hg.eq (fun a j a0 a6 j0 j6 => ⟨Or.inl, fun q => by rcases q with q | q; exact q; omega⟩))
        refine v_take 2 rfl ?_
        refine v_iinc aX4_close_50 rfl (by decide) rfl ?_
        refine v_goto 2 rfl aX4_close_53 ?_
        refine ih (k + 1) _ _ (by omega) (by omega) (by rw [show (k + 1).toNat = k.toNat + 1 by omega]; exact hg') (Or.inl rfl)
    rcases hL with rfl | ⟨a, rfl⟩
    · exact hL2
    · exact v_take 2 rfl hL2
set_option maxHeartbeats 4000000 in
set_option maxRecDepth 100000 in
theorem c_X4_close (hR : RelS S b) (hr : Rows (μ (b + 1)) R) (hn : 0 ≤ μ b 2 ∧ μ b 2 ≤ 6) (hd : ∀ a j, R a j → a = j ∨ (0 ≤ a ∧ a < μ b 2)) : Ct l G cX4_close (yX4_close, 3, none, 1, 0, 0) [.ref b] S μ (Rw S (fun μ' => ∃ g', μ' = row μ (b + 1) g' ∧ Rows g' (wsh (μ b 2).toNat R))) := by
  refine Ct.of (by decide) rfl (by simp [vi, Value.category]) (Nat.le_of_ble_eq_true rfl) ?_
  refine v_iconst aX4_close_0 ?_
  refine v_istore_n aX4_close_1 (by decide) rfl ?_
  refine v_mu (row_id (a := b + 1)).symm ?_
  exact lo_X4_close (R := R) hR hn hd (fun g hg => ⟨rfl, rfl, g, rfl, hg⟩) 7 0 (μ (b + 1)) _ (by omega) (by omega) hr (Or.inl rfl)
end RELC
