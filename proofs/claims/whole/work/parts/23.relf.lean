/-! leaders: the relation of the class -/
/-- s is the least of those that are alike with it -/
def Ld (R : Rl) (s : Int) : Prop := ∀ o : Int, 0 ≤ o → o < s → ¬ (R s o ∧ R o s)
/-- the set of bits z is p -/
def Msk (z : Int) (p : Int → Prop) : Prop := (0 ≤ z ∧ z.toNat < 2 ^ 6) ∧ ∀ j : Int, 0 ≤ j → j < 6 → (tb z j ↔ p j)
theorem Msk.c {z : Int} {p q : Int → Prop} (h : Msk z p) (e : ∀ j : Int, 0 ≤ j → j < 6 → (p j ↔ q j)) : Msk z q := ⟨h.1, fun j h0 h1 => (h.2 j h0 h1).trans (e j h0 h1)⟩
theorem Msk.or {z i : Int} {p : Int → Prop} (h : Msk z p) (hi : 0 ≤ i ∧ i < 6) : Msk (iOr z (iShl 1 i)) (fun j => p j ∨ j = i) := ⟨or_rng 6 (by decide) h.1 (shl1_rng 6 (by decide) (by omega)), fun j h0 h1 => by rw [tb_or, h.2 j h0 h1, tb_shl1 (by omega) (by omega)]⟩
theorem Msk.zero : Msk 0 (fun _ => False) := ⟨by decide, fun _ _ _ => ⟨fun h => tb_zero h, False.elim⟩⟩
theorem upd2_upd2 {μ : Mu} {a : Nat} {z x y : Int} : upd2 (upd2 μ a z x) a z y = upd2 μ a z y := by
  rw [upd2_iup, upd2_iup, upd2_iup, row_same, row_row, iup_iup]
section RELF
variable {l : Launch} {G : Glb} {S : Sh} {μ : Mu} {b : Nat} {R : Rl}
set_option maxHeartbeats 4000000 in
set_option maxRecDepth 100000 in
theorem li_X4_followsOneAlike {s : Int} (hR : RelS S b) (hr : Rows (μ (b + 1)) R) (hs : 0 ≤ s ∧ s < 6) : ∀ (N : Nat) (i : Int), (0 ≤ i ∧ i ≤ s) → s - i < N → (∀ o : Int, 0 ≤ o → o < i → ¬ (R s o ∧ R o s)) → V l G cX4_followsOneAlike (yX4_followsOneAlike, 3, (some FieldType.boolean), 2, 0, 0) (Ri S (b2i (¬ Ld R s)) μ) (0, 0) S μ 2 [.ref b, vi s, vi i] [] := by
  intro N
  induction N with
  | zero => intros; omega
  | succ N ih =>
    intro i h0 h1 hp
    refine v_iload_n aX4_followsOneAlike_2 rfl ?_
    refine v_iload_n aX4_followsOneAlike_3 rfl ?_
    refine v_icmp_ge 24 rfl aX4_followsOneAlike_4 (by omega) (by omega) (fun c4 => ?_) (fun c4 => ?_)
    · --
      refine v_iconst aX4_followsOneAlike_24 ?_
      refine v_zreturn aX4_followsOneAlike_25 rfl ⟨Nat.le_refl _, Nat.le_refl _⟩ (by first | exact Or.inl rfl | exact Or.inr rfl | exact b2i_01 | omega) ?_
      exact ⟨congrArg (fun z => some (vi z)) (b2i_f (fun q => q (fun o o0 o1 => hp o o0 (by omega)))).symm, rfl, rfl⟩
    · --
      refine v_aload_n aX4_followsOneAlike_7 rfl ?_
      refine v_iload_n aX4_followsOneAlike_8 rfl ?_
      refine v_iload_n aX4_followsOneAlike_9 rfl ?_
      refine v_cVi (c_X4_isAlike hR hr hs (by omega)) aX4_followsOneAlike_10 mX4_isAlike vX4_isAlike lX4_54 hR.p rfl rfl rfl rfl rfl (Nat.le_of_ble_eq_true rfl) ⟨Nat.le_of_ble_eq_true rfl, Nat.le_of_ble_eq_true rfl⟩ (Nat.le_of_ble_eq_true rfl) ?_
      refine v_if_eq_b 18 rfl aX4_followsOneAlike_13 (fun c13 => ?_) (fun c13 => ?_)
      · --
        refine v_iinc aX4_followsOneAlike_18 rfl (by decide) rfl ?_
        refine v_goto 2 rfl aX4_followsOneAlike_21 ?_
        refine ih (i + 1) (by omega) (by omega) (fun o o0 o1 => ?_)
        by_cases e : o = i
        · rw [e]; exact c13
        · exact hp o o0 (by omega)
      · --
        refine v_iconst aX4_followsOneAlike_16 ?_
        refine v_zreturn aX4_followsOneAlike_17 rfl ⟨Nat.le_refl _, Nat.le_refl _⟩ (by first | exact Or.inl rfl | exact Or.inr rfl | exact b2i_01 | omega) ?_
        exact ⟨congrArg (fun z => some (vi z)) (b2i_t (fun q => q i h0.1 (by omega) c13)).symm, rfl, rfl⟩
set_option maxHeartbeats 4000000 in
set_option maxRecDepth 100000 in
theorem c_X4_followsOneAlike {s : Int} (hR : RelS S b) (hr : Rows (μ (b + 1)) R) (hs : 0 ≤ s ∧ s < 6) : Ct l G cX4_followsOneAlike (yX4_followsOneAlike, 3, (some FieldType.boolean), 2, 0, 0) [.ref b, vi s] S μ (Ri S (b2i (¬ Ld R s)) μ) := by
  refine Ct.of (by decide) rfl (by simp [vi, Value.category]) (Nat.le_of_ble_eq_true rfl) ?_
  refine v_iconst aX4_followsOneAlike_0 ?_
  refine v_istore_n aX4_followsOneAlike_1 (by decide) rfl ?_
  exact li_X4_followsOneAlike hR hr hs 7 0 (by omega) (by omega) (fun o o0 o1 => absurd o0 (by omega))
set_option maxHeartbeats 4000000 in
set_option maxRecDepth 100000 in
theorem li_X4_findLeaders (hR : RelS S b) (hr : Rows (μ (b + 1)) R) (hn : 0 ≤ μ b 2 ∧ μ b 2 ≤ 6) : ∀ (N : Nat) (i z : Int), (0 ≤ i ∧ i ≤ μ b 2) → μ b 2 - i < N → Msk z (fun j => j < i ∧ Ld R j) → V l G cX4_findLeaders (yX4_findLeaders, 2, none, 3, 0, 0) (Rw S (fun μ' => ∃ z, μ' = upd2 μ b 3 z ∧ Msk z (fun j => j < μ b 2 ∧ Ld R j))) (0, 0) S (upd2 μ b 3 z) 7 [.ref b, vi i] [] := by
  intro N
  induction N with
  | zero => intros; omega
  | succ N ih =>
    intro i z h0 h1 hz
    have hr' : Rows (upd2 μ b 3 z (b + 1)) R := by rw [upd2_row (by omega)]; exact hr
    have e2 : upd2 μ b 3 z b 2 = μ b 2 := by rw [upd2_ap, if_neg (by omega)]
    refine v_iload_n aX4_findLeaders_7 rfl ?_
    refine v_aload_n aX4_findLeaders_8 rfl ?_
    refine v_gi 2 rfl aX4_findLeaders_9 fX4_24 hR.p rfl rfl ?_
    refine v_top e2 ?_
    refine v_icmp_ge 41 rfl aX4_findLeaders_12 (by omega) (by omega) (fun c12 => ?_) (fun c12 => ?_)
    · --
      refine v_return aX4_findLeaders_41 rfl ⟨Nat.le_refl _, Nat.le_refl _⟩ ?_
      exact ⟨rfl, rfl, z, rfl, hz.c (fun j j0 j6 => ⟨fun q => ⟨by omega, q.2⟩, fun q => ⟨by omega, q.2⟩⟩)⟩
    · --
      refine v_aload_n aX4_findLeaders_15 rfl ?_
      refine v_iload_n aX4_findLeaders_16 rfl ?_
      refine v_cVi (c_X4_followsOneAlike hR hr' (by omega)) aX4_findLeaders_17 mX4_followsOneAlike vX4_followsOneAlike lX4_64 hR.p rfl rfl rfl rfl rfl (Nat.le_of_ble_eq_true rfl) ⟨Nat.le_of_ble_eq_true rfl, Nat.le_of_ble_eq_true rfl⟩ (Nat.le_of_ble_eq_true rfl) ?_
      refine v_if_ne_b 35 rfl aX4_findLeaders_20 (fun c20 => ?_) (fun c20 => ?_)
      · --
        refine v_iinc aX4_findLeaders_35 rfl (by decide) rfl ?_
        refine v_goto 7 rfl aX4_findLeaders_38 ?_
        refine ih (i + 1) _ (by omega) (by omega) (hz.c (fun j j0 j6 => ?_))
        exact ⟨fun q => ⟨by omega, q.2⟩, fun q => (Int.lt_or_eq_of_le (Int.lt_add_one_iff.mp q.1)).elim (fun h => ⟨h, q.2⟩) (fun h => absurd q.2 (by rw [h]; exact c20))⟩
      · --
        refine v_aload_n aX4_findLeaders_23 rfl ?_
        refine v_dup rfl aX4_findLeaders_24 ?_
        refine v_gi 3 rfl aX4_findLeaders_25 fX4_61 hR.p rfl rfl ?_
        refine v_top upd2_same ?_
        refine v_iconst aX4_findLeaders_28 ?_
        refine v_iload_n aX4_findLeaders_29 rfl ?_
        refine v_ishl aX4_findLeaders_30 ?_
        refine v_ior aX4_findLeaders_31 ?_
        refine v_pi 3 rfl aX4_findLeaders_32 fX4_61 nf4_3 ok4_3 hR.p rfl rfl ?_
        refine v_iinc aX4_findLeaders_35 rfl (by decide) rfl ?_
        refine v_goto 7 rfl aX4_findLeaders_38 ?_
        refine v_mu upd2_upd2 ?_
        refine ih (i + 1) _ (by omega) (by omega) ((hz.or (by omega)).c (fun j j0 j6 => ?_))
        exact ⟨fun q => q.elim (fun q => ⟨by omega, q.2⟩) (fun q => by rw [q]; exact ⟨by omega, Classical.not_not.mp c20⟩), fun q => (Int.lt_or_eq_of_le (Int.lt_add_one_iff.mp q.1)).elim (fun h => Or.inl ⟨h, q.2⟩) Or.inr⟩
set_option maxHeartbeats 4000000 in
set_option maxRecDepth 100000 in
theorem c_X4_findLeaders (hR : RelS S b) (hr : Rows (μ (b + 1)) R) (hn : 0 ≤ μ b 2 ∧ μ b 2 ≤ 6) : Ct l G cX4_findLeaders (yX4_findLeaders, 2, none, 3, 0, 0) [.ref b] S μ (Rw S (fun μ' => ∃ z, μ' = upd2 μ b 3 z ∧ Msk z (fun j => j < μ b 2 ∧ Ld R j))) := by
  refine Ct.of (by decide) rfl (by simp [vi, Value.category]) (Nat.le_of_ble_eq_true rfl) ?_
  refine v_aload_n aX4_findLeaders_0 rfl ?_
  refine v_iconst aX4_findLeaders_1 ?_
  refine v_pi 3 rfl aX4_findLeaders_2 fX4_61 nf4_3 ok4_3 hR.p rfl rfl ?_
  refine v_iconst aX4_findLeaders_5 ?_
  refine v_istore_n aX4_findLeaders_6 (by decide) rfl ?_
  exact li_X4_findLeaders hR hr hn 7 0 0 (by omega) (by omega) (Msk.zero.c (fun j j0 j6 => ⟨False.elim, fun q => absurd q.1 (by omega)⟩))
end RELF
