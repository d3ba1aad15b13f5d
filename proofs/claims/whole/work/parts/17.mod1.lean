/-! the plain calls of the model -/
section MOD1
variable {l : Launch} {G : Glb} {S : Sh} {μ : Mu} {m : Nat} {t : BSt} {g : Int → Int} {n : Int}
set_option maxHeartbeats 4000000 in
set_option maxRecDepth 100000 in
theorem c_X8_in {v a b : Int} (hv : (-2147483648 ≤ v ∧ v < 2147483648)) (ha : (-2147483648 ≤ a ∧ a < 2147483648)) (hb : (-2147483648 ≤ b ∧ b < 2147483648)) : Ct l G cX8_in (yX8_in, 3, (some FieldType.boolean), 0, 0, 0) [vi v, vi a, vi b] S μ (Ri S (b2i (a ≤ v ∧ v ≤ b)) μ) := by
  refine Ct.of (by decide) rfl (by simp [vi, Value.category]) (Nat.le_of_ble_eq_true rfl) ?_
  refine v_iload_n aX8_in_0 rfl ?_
  refine v_iload_n aX8_in_1 rfl ?_
  refine v_icmp_lt 14 rfl aX8_in_2 (by omega) (by omega) (fun c2 => ?_) (fun c2 => ?_)
  · --
    refine v_iconst aX8_in_14 ?_
    refine v_zreturn aX8_in_15 rfl ⟨Nat.le_refl _, Nat.le_refl _⟩ (by first | exact Or.inl rfl | exact Or.inr rfl | exact b2i_01 | omega) ?_
    first
      | exact ⟨by rw [b2i_t (by omega)], rfl, rfl⟩
      | exact ⟨by rw [b2i_f (by omega)], rfl, rfl⟩
  · --
    refine v_iload_n aX8_in_5 rfl ?_
    refine v_iload_n aX8_in_6 rfl ?_
    refine v_icmp_gt 14 rfl aX8_in_7 (by omega) (by omega) (fun c7 => ?_) (fun c7 => ?_)
    · --
      refine v_iconst aX8_in_14 ?_
      refine v_zreturn aX8_in_15 rfl ⟨Nat.le_refl _, Nat.le_refl _⟩ (by first | exact Or.inl rfl | exact Or.inr rfl | exact b2i_01 | omega) ?_
      first
        | exact ⟨by rw [b2i_t (by omega)], rfl, rfl⟩
        | exact ⟨by rw [b2i_f (by omega)], rfl, rfl⟩
    · --
      refine v_iconst aX8_in_10 ?_
      refine v_goto 15 rfl aX8_in_11 ?_
      refine v_zreturn aX8_in_15 rfl ⟨Nat.le_refl _, Nat.le_refl _⟩ (by first | exact Or.inl rfl | exact Or.inr rfl | exact b2i_01 | omega) ?_
      first
        | exact ⟨by rw [b2i_t (by omega)], rfl, rfl⟩
        | exact ⟨by rw [b2i_f (by omega)], rfl, rfl⟩
set_option maxHeartbeats 4000000 in
set_option maxRecDepth 100000 in
theorem c_X8_isSack {s : Int} (hM : ModS S m) (hs : (-2147483648 ≤ s ∧ s < 2147483648)) (hn : 0 ≤ μ m 0 ∧ μ m 0 ≤ 6) : Ct l G cX8_isSack (yX8_isSack, 2, (some FieldType.boolean), 1, 0, 0) [.ref m, vi s] S μ (Ri S (b2i (0 ≤ s ∧ s < μ m 0)) μ) := by
  refine Ct.of (by decide) rfl (by simp [vi, Value.category]) (Nat.le_of_ble_eq_true rfl) ?_
  refine v_iload_n aX8_isSack_0 rfl ?_
  refine v_iconst aX8_isSack_1 ?_
  refine v_aload_n aX8_isSack_2 rfl ?_
  refine v_gi 0 rfl aX8_isSack_3 fX8_7 hM.p rfl rfl ?_
  refine v_iconst aX8_isSack_6 ?_
  refine v_isub aX8_isSack_7 ?_
  refine v_cSi (c_X8_in (by omega) (by omega) (by omega)) aX8_isSack_8 mX8_in sX8_in lX8_79 rfl rfl (Nat.le_of_ble_eq_true rfl) ⟨Nat.le_of_ble_eq_true rfl, Nat.le_of_ble_eq_true rfl⟩ (Nat.le_of_ble_eq_true rfl) ?_
  refine v_zreturn aX8_isSack_11 rfl ⟨Nat.le_refl _, Nat.le_refl _⟩ (by first | exact Or.inl rfl | exact Or.inr rfl | exact b2i_01 | omega) ?_
  exact ⟨congrArg (fun z => some (vi z)) (b2i_c (by omega)), rfl, rfl⟩
set_option maxHeartbeats 4000000 in
set_option maxRecDepth 100000 in
theorem l_X8_sacks {μ0 : Mu} {a w : Int} {P : Pst} (hM : ModS S m) (hp : ∀ μ : Mu, (∀ q : Nat, q ≠ m + 3 → q ≠ m + 5 → q ≠ m + 6 → μ q = μ0 q) → (∀ j : Int, 0 ≤ j → j < 6 → μ (m + 3) j = 0 ∧ μ (m + 5) j = 0 ∧ μ (m + 6) j = 999) → P (some (vi w)) S μ) : ∀ (k : Nat) (i : Int) (μ : Mu), (0 ≤ i ∧ i ≤ 6) → 6 - i < k → (∀ q : Nat, q ≠ m + 3 → q ≠ m + 5 → q ≠ m + 6 → μ q = μ0 q) → (∀ j : Int, 0 ≤ j → j < i → μ (m + 3) j = 0 ∧ μ (m + 5) j = 0 ∧ μ (m + 6) j = 999) → V l G cX8_sacks (yX8_sacks, 4, (some FieldType.int), 1, 0, 0) P (0, 0) S μ 30 [.ref m, vi a, vi w, vi i] [] := by
  intro k
  induction k with
  | zero => intro i μ h0 h1; omega
  | succ k ih =>
    intro i μ h0 h1 hq hj
    refine v_iload_n aX8_sacks_30 rfl ?_
    refine v_bipush (by decide) aX8_sacks_31 ?_
    refine v_icmp_ge 65 rfl aX8_sacks_33 (by omega) (by omega) (fun c33 => ?_) (fun c33 => ?_)
    · --
      refine v_iload_n aX8_sacks_65 rfl ?_
      refine v_ireturn aX8_sacks_66 rfl ⟨Nat.le_refl _, Nat.le_refl _⟩ ?_
      exact hp _ hq (fun j j0 j1 => hj j j0 (by omega))
    · --
      refine v_aload_n aX8_sacks_36 rfl ?_
      refine v_getr aX8_sacks_37 fX8_20 hM.p rfl rfl ?_
      refine v_iload_n aX8_sacks_40 rfl ?_
      refine v_iconst aX8_sacks_41 ?_
      refine v_iast aX8_sacks_42 hM.p_lifts (by omega) (by decide) ?_
      refine v_aload_n aX8_sacks_43 rfl ?_
      refine v_getr aX8_sacks_44 fX8_26 hM.p rfl rfl ?_
      refine v_iload_n aX8_sacks_47 rfl ?_
      refine v_iconst aX8_sacks_48 ?_
      refine v_iast aX8_sacks_49 hM.p_low (by omega) (by decide) ?_
      refine v_aload_n aX8_sacks_50 rfl ?_
      refine v_getr aX8_sacks_51 fX8_29 hM.p rfl rfl ?_
      refine v_iload_n aX8_sacks_54 rfl ?_
      refine v_sipush (by decide) aX8_sacks_55 ?_
      refine v_iast aX8_sacks_58 hM.p_high (by omega) (by decide) ?_
      refine v_iinc aX8_sacks_59 rfl (by decide) rfl ?_
      refine v_goto 30 rfl aX8_sacks_62 ?_
      refine ih (i + 1) _ (by omega) (by omega) (fun q e1 e2 e3 => ?_) (fun j j0 j1 => ?_)
      · rw [upd2_row e3, upd2_row e2, upd2_row e1]; exact hq q e1 e2 e3
      · by_cases e : j = i
        · subst e; simp [upd2_ap]
        · have := hj j j0 (by omega)
          simp [upd2_ap, e, this]
set_option maxHeartbeats 4000000 in
set_option maxRecDepth 100000 in
theorem c_X8_sacks {a : Int} (hM : ModS S m) (h : MoAt μ m t g n) (ha : (-2147483648 ≤ a ∧ a < 2147483648)) : Ct l G cX8_sacks (yX8_sacks, 4, (some FieldType.int), 1, 0, 0) [.ref m, vi a] S μ (Re S (fun z μ' => z = (sp_sacks t a).1 ∧ MoAt μ' m (sp_sacks t a).2 g n ∧ Out μ μ' m 20)) := by
  have f0 : μ m 0 = t.1 := h.1.1
  have f3 : μ m 3 = t.2.1 := h.1.2.1
  have f9 : μ m 9 = t.2.2.1 := h.1.2.2.1
  have f1 : μ m 1 = n := h.2.2
  refine Ct.of (by decide) rfl (by simp [vi, Value.category]) (Nat.le_of_ble_eq_true rfl) ?_
  refine v_iload_n aX8_sacks_0 rfl ?_
  refine v_iconst aX8_sacks_1 ?_
  refine v_bipush (by decide) aX8_sacks_2 ?_
  refine v_cSi (c_X8_in (by omega) (by omega) (by omega)) aX8_sacks_4 mX8_in sX8_in lX8_79 rfl rfl (Nat.le_of_ble_eq_true rfl) ⟨Nat.le_of_ble_eq_true rfl, Nat.le_of_ble_eq_true rfl⟩ (Nat.le_of_ble_eq_true rfl) ?_
  refine v_if_ne_b 13 rfl aX8_sacks_7 (fun c7 => ?_) (fun c7 => ?_)
  · --
    refine v_aload_n aX8_sacks_13 rfl ?_
    refine v_gi 0 rfl aX8_sacks_14 fX8_7 hM.p rfl rfl ?_
    rw [f0]
    refine v_istore_n aX8_sacks_17 (by decide) rfl ?_
    refine v_aload_n aX8_sacks_18 rfl ?_
    refine v_iload_n aX8_sacks_19 rfl ?_
    refine v_pi 0 rfl aX8_sacks_20 fX8_7 nf8_0 ok8_0 hM.p rfl rfl ?_
    refine v_aload_n aX8_sacks_23 rfl ?_
    refine v_iconst aX8_sacks_24 ?_
    refine v_pi 3 rfl aX8_sacks_25 fX8_83 nf8_3 ok8_3 hM.p rfl rfl ?_
    refine v_iconst aX8_sacks_28 ?_
    refine v_istore_n aX8_sacks_29 (by decide) rfl ?_
    unfold sp_sacks
    rw [if_pos c7]
    refine l_X8_sacks (μ0 := upd2 (upd2 μ m 0 a) m 3 0) hM (fun μ' h1 h2 => ⟨_, rfl, rfl, rfl, ?_, ?_⟩) 7 0 _ (by omega) (by omega) (fun _ _ _ _ => rfl) (fun j j0 j1 => by omega)
    · obtain ⟨⟨t1, t2, t3, t4, t5, t6, t7, t8, t9⟩, tg, tn⟩ := h
      refine ⟨⟨?_, ?_, ?_, fun z z0 z6 => ?_, fun j j0 j6 => (h2 j j0 j6).1, fun j j0 j6 => (h2 j j0 j6).2.1, fun j j0 j6 => (h2 j j0 j6).2.2, ?_, ?_⟩, ?_, ?_⟩
      · rw [h1 m (by omega) (by omega) (by omega)]; simp [upd2_ap]
      · rw [h1 m (by omega) (by omega) (by omega)]; simp [upd2_ap]
      · rw [h1 m (by omega) (by omega) (by omega)]; simp [upd2_ap, t3]
      · rw [h1 _ (by omega) (by omega) (by omega), upd2_row (by omega), upd2_row (by omega)]; exact t4 z z0 z6
      · rw [h1 _ (by omega) (by omega) (by omega), upd2_row (by omega), upd2_row (by omega)]; exact t8
      · rw [h1 _ (by omega) (by omega) (by omega), upd2_row (by omega), upd2_row (by omega)]; exact t9
      · rw [h1 _ (by omega) (by omega) (by omega), upd2_row (by omega), upd2_row (by omega)]; exact tg
      · rw [h1 m (by omega) (by omega) (by omega)]; simp [upd2_ap, tn]
    · intro q hq
      rw [h1 _ (by omega) (by omega) (by omega), upd2_row (by omega), upd2_row (by omega)]
  · --
    refine v_bipush (by decide) aX8_sacks_10 ?_
    refine v_ireturn aX8_sacks_12 rfl ⟨Nat.le_refl _, Nat.le_refl _⟩ ?_
    rw [show sp_sacks t a = (-2, t) from if_neg c7]
    exact ⟨_, rfl, rfl, rfl, h, Out.rf⟩
set_option maxHeartbeats 4000000 in
set_option maxRecDepth 100000 in
theorem c_X8_say {a : Int} (hM : ModS S m) (h : MoAt μ m t g n) (ha : (-2147483648 ≤ a ∧ a < 2147483648)) (hp : PadOk g n) : Ct l G cX8_say (yX8_say, 2, (some FieldType.int), 1, 0, 0) [.ref m, vi a] S μ (Re S (fun z μ' => z = (sp_say g n a).1 ∧ MoAt μ' m t (sp_say g n a).2.1 (sp_say g n a).2.2 ∧ Out μ μ' m 20)) := by
  have f0 : μ m 0 = t.1 := h.1.1
  have f3 : μ m 3 = t.2.1 := h.1.2.1
  have f9 : μ m 9 = t.2.2.1 := h.1.2.2.1
  have f1 : μ m 1 = n := h.2.2
  have hn := hp.1
  refine Ct.of (by decide) rfl (by simp [vi, Value.category]) (Nat.le_of_ble_eq_true rfl) ?_
  refine v_iload_n aX8_say_0 rfl ?_
  refine v_bipush (by decide) aX8_say_1 ?_
  refine v_bipush (by decide) aX8_say_3 ?_
  refine v_cSi (c_X8_in (by omega) (by omega) (by omega)) aX8_say_5 mX8_in sX8_in lX8_79 rfl rfl (Nat.le_of_ble_eq_true rfl) ⟨Nat.le_of_ble_eq_true rfl, Nat.le_of_ble_eq_true rfl⟩ (Nat.le_of_ble_eq_true rfl) ?_
  refine v_if_ne_b 14 rfl aX8_say_8 (fun c8 => ?_) (fun c8 => ?_)
  · --
    refine v_aload_n aX8_say_14 rfl ?_
    refine v_gi 1 rfl aX8_say_15 fX8_86 hM.p rfl rfl ?_
    rw [f1]
    refine v_bipush (by decide) aX8_say_18 ?_
    refine v_icmp_ne 26 rfl aX8_say_20 (by omega) (by omega) (fun c20 => ?_) (fun c20 => ?_)
    · --
      refine v_aload_n aX8_say_26 rfl ?_
      refine v_getr aX8_say_27 fX8_13 hM.p rfl rfl ?_
      refine v_aload_n aX8_say_30 rfl ?_
      refine v_gi 1 rfl aX8_say_31 fX8_86 hM.p rfl rfl ?_
      rw [f1]
      refine v_iload_n aX8_say_34 rfl ?_
      refine v_iast aX8_say_35 hM.p_pad (by omega) (by decide) ?_
      refine v_aload_n aX8_say_36 rfl ?_
      refine v_dup rfl aX8_say_37 ?_
      refine v_gi 1 rfl aX8_say_38 fX8_86 hM.p rfl rfl ?_
      rw [upd2_row (by omega), f1]
      refine v_iconst aX8_say_41 ?_
      refine v_iadd aX8_say_42 ?_
      refine v_pi 1 rfl aX8_say_43 fX8_86 nf8_1 ok8_1 hM.p rfl rfl ?_
      refine v_aload_n aX8_say_46 rfl ?_
      refine v_gi 1 rfl aX8_say_47 fX8_86 hM.p rfl rfl ?_
      rw [upd2_same]
      refine v_ireturn aX8_say_50 rfl ⟨Nat.le_refl _, Nat.le_refl _⟩ ?_
      rw [show sp_say g n a = (n + 1, iup g n a, n + 1) from by unfold sp_say; rw [if_pos c8, if_neg (by omega)]]
      exact ⟨_, rfl, rfl, rfl, (h.set_g).set_sz, (Out.upd (by omega)).trans (Out.upd (by omega))⟩
    · --
      refine v_bipush (by decide) aX8_say_23 ?_
      refine v_ireturn aX8_say_25 rfl ⟨Nat.le_refl _, Nat.le_refl _⟩ ?_
      rw [show sp_say g n a = (-4, g, n) from by unfold sp_say; rw [if_pos c8, if_pos (by omega)]]
      exact ⟨_, rfl, rfl, rfl, h, Out.rf⟩
  · --
    refine v_bipush (by decide) aX8_say_11 ?_
    refine v_ireturn aX8_say_13 rfl ⟨Nat.le_refl _, Nat.le_refl _⟩ ?_
    rw [show sp_say g n a = (-2, g, n) from if_neg c8]
    exact ⟨_, rfl, rfl, rfl, h, Out.rf⟩
set_option maxHeartbeats 4000000 in
set_option maxRecDepth 100000 in
theorem c_X8_wipe (hM : ModS S m) (h : MoAt μ m t g n) : Ct l G cX8_wipe (yX8_wipe, 2, (some FieldType.int), 0, 0, 0) [.ref m] S μ (Re S (fun z μ' => z = n ∧ MoAt μ' m t g 0 ∧ Out μ μ' m 20)) := by
  have f0 : μ m 0 = t.1 := h.1.1
  have f3 : μ m 3 = t.2.1 := h.1.2.1
  have f9 : μ m 9 = t.2.2.1 := h.1.2.2.1
  have f1 : μ m 1 = n := h.2.2
  refine Ct.of (by decide) rfl (by simp [vi, Value.category]) (Nat.le_of_ble_eq_true rfl) ?_
  refine v_aload_n aX8_wipe_0 rfl ?_
  refine v_gi 1 rfl aX8_wipe_1 fX8_86 hM.p rfl rfl ?_
  rw [f1]
  refine v_istore_n aX8_wipe_4 (by decide) rfl ?_
  refine v_aload_n aX8_wipe_5 rfl ?_
  refine v_iconst aX8_wipe_6 ?_
  refine v_pi 1 rfl aX8_wipe_7 fX8_86 nf8_1 ok8_1 hM.p rfl rfl ?_
  refine v_iload_n aX8_wipe_10 rfl ?_
  refine v_ireturn aX8_wipe_11 rfl ⟨Nat.le_refl _, Nat.le_refl _⟩ ?_
  exact ⟨_, rfl, rfl, rfl, h.set_sz, Out.upd (by omega)⟩
set_option maxHeartbeats 4000000 in
set_option maxRecDepth 100000 in
theorem l_X8_faultOf {P : Pst} (hM : ModS S m) (h : MoAt μ m t g n) (ht : 2 ≤ t.1 ∧ t.1 ≤ 6) (hp : PadOk g n) : ∀ (k : Nat) (i : Int) (L : List Value), (0 ≤ i ∧ i ≤ n) → n - i < k → (L = [.ref m, vi i] ∨ ∃ a b c, L = [.ref m, vi i, vi a, vi b, vi c]) → (P (some (vi (ffd g t.1 n k i))) S μ) → V l G cX8_faultOf (yX8_faultOf, 5, (some FieldType.int), 2, 0, 0) P (0, 0) S μ 2 L [] := by
  have f0 : μ m 0 = t.1 := h.1.1
  have f3 : μ m 3 = t.2.1 := h.1.2.1
  have f9 : μ m 9 = t.2.2.1 := h.1.2.2.1
  have f1 : μ m 1 = n := h.2.2
  obtain ⟨hn, hg⟩ := id hp
  have fg : μ (m + 1) = g := h.2.1
  intro k
  induction k with
  | zero => intro i L h0 h1; omega
  | succ k ih =>
    intro i L h0 h1 hL hh
    have hL2 : V l G cX8_faultOf (yX8_faultOf, 5, (some FieldType.int), 2, 0, 0) P (0, 0) S μ 2 [.ref m, vi i] [] := by
      clear hL
      unfold ffd at hh
      refine v_iload_n aX8_faultOf_2 rfl ?_
      refine v_aload_n aX8_faultOf_3 rfl ?_
      refine v_gi 1 rfl aX8_faultOf_4 fX8_86 hM.p rfl rfl ?_
      rw [f1]
      refine v_icmp_ge 102 rfl aX8_faultOf_7 (by omega) (by omega) (fun c7 => ?_) (fun c7 => ?_)
      · --
        refine v_aload_n aX8_faultOf_102 rfl ?_
        refine v_gi 1 rfl aX8_faultOf_103 fX8_86 hM.p rfl rfl ?_
        rw [f1]
        refine v_iconst aX8_faultOf_106 ?_
        refine v_irem (by omega) (by omega) aX8_faultOf_107 ?_
        refine v_iconst aX8_faultOf_108 ?_
        refine v_icmp_ne 117 rfl aX8_faultOf_109 (by omega) (by omega) (fun c109 => ?_) (fun c109 => ?_)
        · --
          refine v_aload_n aX8_faultOf_117 rfl ?_
          refine v_gi 1 rfl aX8_faultOf_118 fX8_86 hM.p rfl rfl ?_
          refine v_ireturn aX8_faultOf_121 rfl ⟨Nat.le_refl _, Nat.le_refl _⟩ ?_
          rw [if_neg (by omega)] at hh
          first
            | (rw [if_pos (by omega)] at hh; exact hh)
            | (rw [if_neg (by omega)] at hh; rw [f1]; exact hh)
        · --
          refine v_bipush (by decide) aX8_faultOf_112 ?_
          refine v_goto 121 rfl aX8_faultOf_114 ?_
          refine v_ireturn aX8_faultOf_121 rfl ⟨Nat.le_refl _, Nat.le_refl _⟩ ?_
          rw [if_neg (by omega)] at hh
          first
            | (rw [if_pos (by omega)] at hh; exact hh)
            | (rw [if_neg (by omega)] at hh; rw [f1]; exact hh)
      · --
        have hgi := hg i (by omega) (by omega)
        refine v_aload_n aX8_faultOf_10 rfl ?_
        refine v_getr aX8_faultOf_11 fX8_13 hM.p rfl rfl ?_
        refine v_iload_n aX8_faultOf_14 rfl ?_
        refine v_iald aX8_faultOf_15 hM.p_pad (by omega) (by decide) ?_
        rw [fg]
        refine v_istore_n aX8_faultOf_16 (by decide) rfl ?_
        refine v_iload_n aX8_faultOf_17 rfl ?_
        refine v_bipush (by decide) aX8_faultOf_18 ?_
        refine v_icmp_eq 35 rfl aX8_faultOf_20 (by omega) (by omega) (fun c20 => ?_) (fun c20 => ?_)
        · --
          refine v_iconst aX8_faultOf_35 ?_
          refine v_goto 40 rfl aX8_faultOf_36 ?_
          refine v_istore_n aX8_faultOf_40 (by decide) rfl ?_
          refine v_aload_n aX8_faultOf_41 rfl ?_
          refine v_iload_n aX8_faultOf_42 rfl ?_
          refine v_bipush (by decide) aX8_faultOf_43 ?_
          refine v_isub aX8_faultOf_45 ?_
          refine v_cVi (c_X8_isSack hM (by omega) (by omega)) aX8_faultOf_46 mX8_isSack vX8_isSack lX8_89 hM.p rfl rfl rfl rfl rfl (Nat.le_of_ble_eq_true rfl) ⟨Nat.le_of_ble_eq_true rfl, Nat.le_of_ble_eq_true rfl⟩ (Nat.le_of_ble_eq_true rfl) ?_
          refine v_if_eq_b 73 rfl aX8_faultOf_49 (fun c49 => ?_) (fun c49 => ?_)
          · --
            refine v_iconst aX8_faultOf_73 ?_
            refine v_istore aX8_faultOf_74 (by decide) rfl ?_
            refine v_iload_n aX8_faultOf_76 rfl ?_
            refine v_iconst aX8_faultOf_77 ?_
            refine v_irem (by omega) (by omega) aX8_faultOf_78 ?_
            refine v_if_ne 90 rfl aX8_faultOf_79 (by omega) (fun c79 => ?_) (fun c79 => ?_)
            · --
              refine v_iload_n aX8_faultOf_90 rfl ?_
              refine v_if_ne 96 rfl aX8_faultOf_91 (by omega) (fun c91 => ?_) (fun c91 => ?_)
              · --
                refine v_iinc aX8_faultOf_96 rfl (by decide) rfl ?_
                refine v_goto 2 rfl aX8_faultOf_99 ?_
                refine ih (i + 1) _ (by omega) (by omega) (Or.inr ⟨_, _, _, rfl⟩) ?_
                rw [if_pos (by omega), if_pos (by unfold mayS; first | (rw [if_pos (by omega)]; omega) | (rw [if_neg (by omega)]; omega))] at hh
                exact hh
              · --
                refine v_iload_n aX8_faultOf_94 rfl ?_
                refine v_ireturn aX8_faultOf_95 rfl ⟨Nat.le_refl _, Nat.le_refl _⟩ ?_
                rw [if_pos (by omega), if_neg (by unfold mayS; first | (rw [if_pos (by omega)]; omega) | (rw [if_neg (by omega)]; omega))] at hh
                exact hh
            · --
              refine v_iload aX8_faultOf_82 rfl ?_
              refine v_if_ne 96 rfl aX8_faultOf_84 (by omega) (fun c84 => ?_) (fun c84 => ?_)
              · --
                refine v_iinc aX8_faultOf_96 rfl (by decide) rfl ?_
                refine v_goto 2 rfl aX8_faultOf_99 ?_
                refine ih (i + 1) _ (by omega) (by omega) (Or.inr ⟨_, _, _, rfl⟩) ?_
                rw [if_pos (by omega), if_pos (by unfold mayS; first | (rw [if_pos (by omega)]; omega) | (rw [if_neg (by omega)]; omega))] at hh
                exact hh
              · --
                refine v_goto 94 rfl aX8_faultOf_87 ?_
                refine v_iload_n aX8_faultOf_94 rfl ?_
                refine v_ireturn aX8_faultOf_95 rfl ⟨Nat.le_refl _, Nat.le_refl _⟩ ?_
                rw [if_pos (by omega), if_neg (by unfold mayS; first | (rw [if_pos (by omega)]; omega) | (rw [if_neg (by omega)]; omega))] at hh
                exact hh
          · --
            refine v_iload_n aX8_faultOf_52 rfl ?_
            refine v_iconst aX8_faultOf_53 ?_
            refine v_icmp_lt 69 rfl aX8_faultOf_54 (by omega) (by omega) (fun c54 => ?_) (fun c54 => ?_)
            · --
              refine v_iconst aX8_faultOf_69 ?_
              refine v_goto 74 rfl aX8_faultOf_70 ?_
              refine v_istore aX8_faultOf_74 (by decide) rfl ?_
              refine v_iload_n aX8_faultOf_76 rfl ?_
              refine v_iconst aX8_faultOf_77 ?_
              refine v_irem (by omega) (by omega) aX8_faultOf_78 ?_
              refine v_if_ne 90 rfl aX8_faultOf_79 (by omega) (fun c79 => ?_) (fun c79 => ?_)
              · --
                refine v_iload_n aX8_faultOf_90 rfl ?_
                refine v_if_ne 96 rfl aX8_faultOf_91 (by omega) (fun c91 => ?_) (fun c91 => ?_)
                · --
                  refine v_iinc aX8_faultOf_96 rfl (by decide) rfl ?_
                  refine v_goto 2 rfl aX8_faultOf_99 ?_
                  refine ih (i + 1) _ (by omega) (by omega) (Or.inr ⟨_, _, _, rfl⟩) ?_
                  rw [if_pos (by omega), if_pos (by unfold mayS; first | (rw [if_pos (by omega)]; omega) | (rw [if_neg (by omega)]; omega))] at hh
                  exact hh
                · --
                  refine v_iload_n aX8_faultOf_94 rfl ?_
                  refine v_ireturn aX8_faultOf_95 rfl ⟨Nat.le_refl _, Nat.le_refl _⟩ ?_
                  rw [if_pos (by omega), if_neg (by unfold mayS; first | (rw [if_pos (by omega)]; omega) | (rw [if_neg (by omega)]; omega))] at hh
                  exact hh
              · --
                refine v_iload aX8_faultOf_82 rfl ?_
                refine v_if_ne 96 rfl aX8_faultOf_84 (by omega) (fun c84 => ?_) (fun c84 => ?_)
                · --
                  refine v_iinc aX8_faultOf_96 rfl (by decide) rfl ?_
                  refine v_goto 2 rfl aX8_faultOf_99 ?_
                  refine ih (i + 1) _ (by omega) (by omega) (Or.inr ⟨_, _, _, rfl⟩) ?_
                  rw [if_pos (by omega), if_pos (by unfold mayS; first | (rw [if_pos (by omega)]; omega) | (rw [if_neg (by omega)]; omega))] at hh
                  exact hh
                · --
                  refine v_goto 94 rfl aX8_faultOf_87 ?_
                  refine v_iload_n aX8_faultOf_94 rfl ?_
                  refine v_ireturn aX8_faultOf_95 rfl ⟨Nat.le_refl _, Nat.le_refl _⟩ ?_
                  rw [if_pos (by omega), if_neg (by unfold mayS; first | (rw [if_pos (by omega)]; omega) | (rw [if_neg (by omega)]; omega))] at hh
                  exact hh
            · --
              have hgj := hg (i - 2) (by omega) (by omega)
              refine v_aload_n aX8_faultOf_57 rfl ?_
              refine v_getr aX8_faultOf_58 fX8_13 hM.p rfl rfl ?_
              refine v_iload_n aX8_faultOf_61 rfl ?_
              refine v_iconst aX8_faultOf_62 ?_
              refine v_isub aX8_faultOf_63 ?_
              refine v_iald aX8_faultOf_64 hM.p_pad (by omega) (by decide) ?_
              rw [fg]
              refine v_iload_n aX8_faultOf_65 rfl ?_
              refine v_icmp_eq 73 rfl aX8_faultOf_66 (by omega) (by omega) (fun c66 => ?_) (fun c66 => ?_)
              · --
                refine v_iconst aX8_faultOf_73 ?_
                refine v_istore aX8_faultOf_74 (by decide) rfl ?_
                refine v_iload_n aX8_faultOf_76 rfl ?_
                refine v_iconst aX8_faultOf_77 ?_
                refine v_irem (by omega) (by omega) aX8_faultOf_78 ?_
                refine v_if_ne 90 rfl aX8_faultOf_79 (by omega) (fun c79 => ?_) (fun c79 => ?_)
                · --
                  refine v_iload_n aX8_faultOf_90 rfl ?_
                  refine v_if_ne 96 rfl aX8_faultOf_91 (by omega) (fun c91 => ?_) (fun c91 => ?_)
                  · --
                    refine v_iinc aX8_faultOf_96 rfl (by decide) rfl ?_
                    refine v_goto 2 rfl aX8_faultOf_99 ?_
                    refine ih (i + 1) _ (by omega) (by omega) (Or.inr ⟨_, _, _, rfl⟩) ?_
                    rw [if_pos (by omega), if_pos (by unfold mayS; first | (rw [if_pos (by omega)]; omega) | (rw [if_neg (by omega)]; omega))] at hh
                    exact hh
                  · --
                    refine v_iload_n aX8_faultOf_94 rfl ?_
                    refine v_ireturn aX8_faultOf_95 rfl ⟨Nat.le_refl _, Nat.le_refl _⟩ ?_
                    rw [if_pos (by omega), if_neg (by unfold mayS; first | (rw [if_pos (by omega)]; omega) | (rw [if_neg (by omega)]; omega))] at hh
                    exact hh
                · --
                  refine v_iload aX8_faultOf_82 rfl ?_
                  refine v_if_ne 96 rfl aX8_faultOf_84 (by omega) (fun c84 => ?_) (fun c84 => ?_)
                  · --
                    refine v_iinc aX8_faultOf_96 rfl (by decide) rfl ?_
                    refine v_goto 2 rfl aX8_faultOf_99 ?_
                    refine ih (i + 1) _ (by omega) (by omega) (Or.inr ⟨_, _, _, rfl⟩) ?_
                    rw [if_pos (by omega), if_pos (by unfold mayS; first | (rw [if_pos (by omega)]; omega) | (rw [if_neg (by omega)]; omega))] at hh
                    exact hh
                  · --
                    refine v_goto 94 rfl aX8_faultOf_87 ?_
                    refine v_iload_n aX8_faultOf_94 rfl ?_
                    refine v_ireturn aX8_faultOf_95 rfl ⟨Nat.le_refl _, Nat.le_refl _⟩ ?_
                    rw [if_pos (by omega), if_neg (by unfold mayS; first | (rw [if_pos (by omega)]; omega) | (rw [if_neg (by omega)]; omega))] at hh
                    exact hh
              · --
                refine v_iconst aX8_faultOf_69 ?_
                refine v_goto 74 rfl aX8_faultOf_70 ?_
                refine v_istore aX8_faultOf_74 (by decide) rfl ?_
                refine v_iload_n aX8_faultOf_76 rfl ?_
                refine v_iconst aX8_faultOf_77 ?_
                refine v_irem (by omega) (by omega) aX8_faultOf_78 ?_
                refine v_if_ne 90 rfl aX8_faultOf_79 (by omega) (fun c79 => ?_) (fun c79 => ?_)
                · --
                  refine v_iload_n aX8_faultOf_90 rfl ?_
                  refine v_if_ne 96 rfl aX8_faultOf_91 (by omega) (fun c91 => ?_) (fun c91 => ?_)
                  · --
                    refine v_iinc aX8_faultOf_96 rfl (by decide) rfl ?_
                    refine v_goto 2 rfl aX8_faultOf_99 ?_
                    refine ih (i + 1) _ (by omega) (by omega) (Or.inr ⟨_, _, _, rfl⟩) ?_
                    rw [if_pos (by omega), if_pos (by unfold mayS; first | (rw [if_pos (by omega)]; omega) | (rw [if_neg (by omega)]; omega))] at hh
                    exact hh
                  · --
                    refine v_iload_n aX8_faultOf_94 rfl ?_
                    refine v_ireturn aX8_faultOf_95 rfl ⟨Nat.le_refl _, Nat.le_refl _⟩ ?_
                    rw [if_pos (by omega), if_neg (by unfold mayS; first | (rw [if_pos (by omega)]; omega) | (rw [if_neg (by omega)]; omega))] at hh
                    exact hh
                · --
                  refine v_iload aX8_faultOf_82 rfl ?_
                  refine v_if_ne 96 rfl aX8_faultOf_84 (by omega) (fun c84 => ?_) (fun c84 => ?_)
                  · --
                    refine v_iinc aX8_faultOf_96 rfl (by decide) rfl ?_
                    refine v_goto 2 rfl aX8_faultOf_99 ?_
                    refine ih (i + 1) _ (by omega) (by omega) (Or.inr ⟨_, _, _, rfl⟩) ?_
                    rw [if_pos (by omega), if_pos (by unfold mayS; first | (rw [if_pos (by omega)]; omega) | (rw [if_neg (by omega)]; omega))] at hh
                    exact hh
                  · --
                    refine v_goto 94 rfl aX8_faultOf_87 ?_
                    refine v_iload_n aX8_faultOf_94 rfl ?_
                    refine v_ireturn aX8_faultOf_95 rfl ⟨Nat.le_refl _, Nat.le_refl _⟩ ?_
                    rw [if_pos (by omega), if_neg (by unfold mayS; first | (rw [if_pos (by omega)]; omega) | (rw [if_neg (by omega)]; omega))] at hh
                    exact hh
        · --
          refine v_iload_n aX8_faultOf_23 rfl ?_
          refine v_bipush (by decide) aX8_faultOf_24 ?_
          refine v_icmp_eq 35 rfl aX8_faultOf_26 (by omega) (by omega) (fun c26 => ?_) (fun c26 => ?_)
          · --
            refine v_iconst aX8_faultOf_35 ?_
            refine v_goto 40 rfl aX8_faultOf_36 ?_
            refine v_istore_n aX8_faultOf_40 (by decide) rfl ?_
            refine v_aload_n aX8_faultOf_41 rfl ?_
            refine v_iload_n aX8_faultOf_42 rfl ?_
            refine v_bipush (by decide) aX8_faultOf_43 ?_
            refine v_isub aX8_faultOf_45 ?_
            refine v_cVi (c_X8_isSack hM (by omega) (by omega)) aX8_faultOf_46 mX8_isSack vX8_isSack lX8_89 hM.p rfl rfl rfl rfl rfl (Nat.le_of_ble_eq_true rfl) ⟨Nat.le_of_ble_eq_true rfl, Nat.le_of_ble_eq_true rfl⟩ (Nat.le_of_ble_eq_true rfl) ?_
            refine v_if_eq_b 73 rfl aX8_faultOf_49 (fun c49 => ?_) (fun c49 => ?_)
            · --
              refine v_iconst aX8_faultOf_73 ?_
              refine v_istore aX8_faultOf_74 (by decide) rfl ?_
              refine v_iload_n aX8_faultOf_76 rfl ?_
              refine v_iconst aX8_faultOf_77 ?_
              refine v_irem (by omega) (by omega) aX8_faultOf_78 ?_
              refine v_if_ne 90 rfl aX8_faultOf_79 (by omega) (fun c79 => ?_) (fun c79 => ?_)
              · --
                refine v_iload_n aX8_faultOf_90 rfl ?_
                refine v_if_ne 96 rfl aX8_faultOf_91 (by omega) (fun c91 => ?_) (fun c91 => ?_)
                · --
                  refine v_iinc aX8_faultOf_96 rfl (by decide) rfl ?_
                  refine v_goto 2 rfl aX8_faultOf_99 ?_
                  refine ih (i + 1) _ (by omega) (by omega) (Or.inr ⟨_, _, _, rfl⟩) ?_
                  rw [if_pos (by omega), if_pos (by unfold mayS; first | (rw [if_pos (by omega)]; omega) | (rw [if_neg (by omega)]; omega))] at hh
                  exact hh
                · --
                  refine v_iload_n aX8_faultOf_94 rfl ?_
                  refine v_ireturn aX8_faultOf_95 rfl ⟨Nat.le_refl _, Nat.le_refl _⟩ ?_
                  rw [if_pos (by omega), if_neg (by unfold mayS; first | (rw [if_pos (by omega)]; omega) | (rw [if_neg (by omega)]; omega))] at hh
                  exact hh
              · --
                refine v_iload aX8_faultOf_82 rfl ?_
                refine v_if_ne 96 rfl aX8_faultOf_84 (by omega) (fun c84 => ?_) (fun c84 => ?_)
                · --
                  refine v_iinc aX8_faultOf_96 rfl (by decide) rfl ?_
                  refine v_goto 2 rfl aX8_faultOf_99 ?_
                  refine ih (i + 1) _ (by omega) (by omega) (Or.inr ⟨_, _, _, rfl⟩) ?_
                  rw [if_pos (by omega), if_pos (by unfold mayS; first | (rw [if_pos (by omega)]; omega) | (rw [if_neg (by omega)]; omega))] at hh
                  exact hh
                · --
                  refine v_goto 94 rfl aX8_faultOf_87 ?_
                  refine v_iload_n aX8_faultOf_94 rfl ?_
                  refine v_ireturn aX8_faultOf_95 rfl ⟨Nat.le_refl _, Nat.le_refl _⟩ ?_
                  rw [if_pos (by omega), if_neg (by unfold mayS; first | (rw [if_pos (by omega)]; omega) | (rw [if_neg (by omega)]; omega))] at hh
                  exact hh
            · --
              refine v_iload_n aX8_faultOf_52 rfl ?_
              refine v_iconst aX8_faultOf_53 ?_
              refine v_icmp_lt 69 rfl aX8_faultOf_54 (by omega) (by omega) (fun c54 => ?_) (fun c54 => ?_)
              · --
                refine v_iconst aX8_faultOf_69 ?_
                refine v_goto 74 rfl aX8_faultOf_70 ?_
                refine v_istore aX8_faultOf_74 (by decide) rfl ?_
                refine v_iload_n aX8_faultOf_76 rfl ?_
                refine v_iconst aX8_faultOf_77 ?_
                refine v_irem (by omega) (by omega) aX8_faultOf_78 ?_
                refine v_if_ne 90 rfl aX8_faultOf_79 (by omega) (fun c79 => ?_) (fun c79 => ?_)
                · --
                  refine v_iload_n aX8_faultOf_90 rfl ?_
                  refine v_if_ne 96 rfl aX8_faultOf_91 (by omega) (fun c91 => ?_) (fun c91 => ?_)
                  · --
                    refine v_iinc aX8_faultOf_96 rfl (by decide) rfl ?_
                    refine v_goto 2 rfl aX8_faultOf_99 ?_
                    refine ih (i + 1) _ (by omega) (by omega) (Or.inr ⟨_, _, _, rfl⟩) ?_
                    rw [if_pos (by omega), if_pos (by unfold mayS; first | (rw [if_pos (by omega)]; omega) | (rw [if_neg (by omega)]; omega))] at hh
                    exact hh
                  · --
                    refine v_iload_n aX8_faultOf_94 rfl ?_
                    refine v_ireturn aX8_faultOf_95 rfl ⟨Nat.le_refl _, Nat.le_refl _⟩ ?_
                    rw [if_pos (by omega), if_neg (by unfold mayS; first | (rw [if_pos (by omega)]; omega) | (rw [if_neg (by omega)]; omega))] at hh
                    exact hh
                · --
                  refine v_iload aX8_faultOf_82 rfl ?_
                  refine v_if_ne 96 rfl aX8_faultOf_84 (by omega) (fun c84 => ?_) (fun c84 => ?_)
                  · --
                    refine v_iinc aX8_faultOf_96 rfl (by decide) rfl ?_
                    refine v_goto 2 rfl aX8_faultOf_99 ?_
                    refine ih (i + 1) _ (by omega) (by omega) (Or.inr ⟨_, _, _, rfl⟩) ?_
                    rw [if_pos (by omega), if_pos (by unfold mayS; first | (rw [if_pos (by omega)]; omega) | (rw [if_neg (by omega)]; omega))] at hh
                    exact hh
                  · --
                    refine v_goto 94 rfl aX8_faultOf_87 ?_
                    refine v_iload_n aX8_faultOf_94 rfl ?_
                    refine v_ireturn aX8_faultOf_95 rfl ⟨Nat.le_refl _, Nat.le_refl _⟩ ?_
                    rw [if_pos (by omega), if_neg (by unfold mayS; first | (rw [if_pos (by omega)]; omega) | (rw [if_neg (by omega)]; omega))] at hh
                    exact hh
              · --
                have hgj := hg (i - 2) (by omega) (by omega)
                refine v_aload_n aX8_faultOf_57 rfl ?_
                refine v_getr aX8_faultOf_58 fX8_13 hM.p rfl rfl ?_
                refine v_iload_n aX8_faultOf_61 rfl ?_
                refine v_iconst aX8_faultOf_62 ?_
                refine v_isub aX8_faultOf_63 ?_
                refine v_iald aX8_faultOf_64 hM.p_pad (by omega) (by decide) ?_
                rw [fg]
                refine v_iload_n aX8_faultOf_65 rfl ?_
                refine v_icmp_eq 73 rfl aX8_faultOf_66 (by omega) (by omega) (fun c66 => ?_) (fun c66 => ?_)
                · --
                  refine v_iconst aX8_faultOf_73 ?_
                  refine v_istore aX8_faultOf_74 (by decide) rfl ?_
                  refine v_iload_n aX8_faultOf_76 rfl ?_
                  refine v_iconst aX8_faultOf_77 ?_
                  refine v_irem (by omega) (by omega) aX8_faultOf_78 ?_
                  refine v_if_ne 90 rfl aX8_faultOf_79 (by omega) (fun c79 => ?_) (fun c79 => ?_)
                  · --
                    refine v_iload_n aX8_faultOf_90 rfl ?_
                    refine v_if_ne 96 rfl aX8_faultOf_91 (by omega) (fun c91 => ?_) (fun c91 => ?_)
                    · --
                      refine v_iinc aX8_faultOf_96 rfl (by decide) rfl ?_
                      refine v_goto 2 rfl aX8_faultOf_99 ?_
                      refine ih (i + 1) _ (by omega) (by omega) (Or.inr ⟨_, _, _, rfl⟩) ?_
                      rw [if_pos (by omega), if_pos (by unfold mayS; first | (rw [if_pos (by omega)]; omega) | (rw [if_neg (by omega)]; omega))] at hh
                      exact hh
                    · --
                      refine v_iload_n aX8_faultOf_94 rfl ?_
                      refine v_ireturn aX8_faultOf_95 rfl ⟨Nat.le_refl _, Nat.le_refl _⟩ ?_
                      rw [if_pos (by omega), if_neg (by unfold mayS; first | (rw [if_pos (by omega)]; omega) | (rw [if_neg (by omega)]; omega))] at hh
                      exact hh
                  · --
                    refine v_iload aX8_faultOf_82 rfl ?_
                    refine v_if_ne 96 rfl aX8_faultOf_84 (by omega) (fun c84 => ?_) (fun c84 => ?_)
                    · --
                      refine v_iinc aX8_faultOf_96 rfl (by decide) rfl ?_
                      refine v_goto 2 rfl aX8_faultOf_99 ?_
                      refine ih (i + 1) _ (by omega) (by omega) (Or.inr ⟨_, _, _, rfl⟩) ?_
                      rw [if_pos (by omega), if_pos (by unfold mayS; first | (rw [if_pos (by omega)]; omega) | (rw [if_neg (by omega)]; omega))] at hh
                      exact hh
                    · --
                      refine v_goto 94 rfl aX8_faultOf_87 ?_
                      refine v_iload_n aX8_faultOf_94 rfl ?_
                      refine v_ireturn aX8_faultOf_95 rfl ⟨Nat.le_refl _, Nat.le_refl _⟩ ?_
                      rw [if_pos (by omega), if_neg (by unfold mayS; first | (rw [if_pos (by omega)]; omega) | (rw [if_neg (by omega)]; omega))] at hh
                      exact hh
                · --
                  refine v_iconst aX8_faultOf_69 ?_
                  refine v_goto 74 rfl aX8_faultOf_70 ?_
                  refine v_istore aX8_faultOf_74 (by decide) rfl ?_
                  refine v_iload_n aX8_faultOf_76 rfl ?_
                  refine v_iconst aX8_faultOf_77 ?_
                  refine v_irem (by omega) (by omega) aX8_faultOf_78 ?_
                  refine v_if_ne 90 rfl aX8_faultOf_79 (by omega) (fun c79 => ?_) (fun c79 => ?_)
                  · --
                    refine v_iload_n aX8_faultOf_90 rfl ?_
                    refine v_if_ne 96 rfl aX8_faultOf_91 (by omega) (fun c91 => ?_) (fun c91 => ?_)
                    · --
                      refine v_iinc aX8_faultOf_96 rfl (by decide) rfl ?_
                      refine v_goto 2 rfl aX8_faultOf_99 ?_
                      refine ih (i + 1) _ (by omega) (by omega) (Or.inr ⟨_, _, _, rfl⟩) ?_
                      rw [if_pos (by omega), if_pos (by unfold mayS; first | (rw [if_pos (by omega)]; omega) | (rw [if_neg (by omega)]; omega))] at hh
                      exact hh
                    · --
                      refine v_iload_n aX8_faultOf_94 rfl ?_
                      refine v_ireturn aX8_faultOf_95 rfl ⟨Nat.le_refl _, Nat.le_refl _⟩ ?_
                      rw [if_pos (by omega), if_neg (by unfold mayS; first | (rw [if_pos (by omega)]; omega) | (rw [if_neg (by omega)]; omega))] at hh
                      exact hh
                  · --
                    refine v_iload aX8_faultOf_82 rfl ?_
                    refine v_if_ne 96 rfl aX8_faultOf_84 (by omega) (fun c84 => ?_) (fun c84 => ?_)
                    · --
                      refine v_iinc aX8_faultOf_96 rfl (by decide) rfl ?_
                      refine v_goto 2 rfl aX8_faultOf_99 ?_
                      refine ih (i + 1) _ (by omega) (by omega) (Or.inr ⟨_, _, _, rfl⟩) ?_
                      rw [if_pos (by omega), if_pos (by unfold mayS; first | (rw [if_pos (by omega)]; omega) | (rw [if_neg (by omega)]; omega))] at hh
                      exact hh
                    · --
                      refine v_goto 94 rfl aX8_faultOf_87 ?_
                      refine v_iload_n aX8_faultOf_94 rfl ?_
                      refine v_ireturn aX8_faultOf_95 rfl ⟨Nat.le_refl _, Nat.le_refl _⟩ ?_
                      rw [if_pos (by omega), if_neg (by unfold mayS; first | (rw [if_pos (by omega)]; omega) | (rw [if_neg (by omega)]; omega))] at hh
                      exact hh
          · --
            refine v_iload_n aX8_faultOf_29 rfl ?_
            refine v_bipush (by decide) aX8_faultOf_30 ?_
            refine v_icmp_ne 39 rfl aX8_faultOf_32 (by omega) (by omega) (fun c32 => ?_) (fun c32 => ?_)
            · --
              refine v_iconst aX8_faultOf_39 ?_
              refine v_istore_n aX8_faultOf_40 (by decide) rfl ?_
              refine v_aload_n aX8_faultOf_41 rfl ?_
              refine v_iload_n aX8_faultOf_42 rfl ?_
              refine v_bipush (by decide) aX8_faultOf_43 ?_
              refine v_isub aX8_faultOf_45 ?_
              refine v_cVi (c_X8_isSack hM (by omega) (by omega)) aX8_faultOf_46 mX8_isSack vX8_isSack lX8_89 hM.p rfl rfl rfl rfl rfl (Nat.le_of_ble_eq_true rfl) ⟨Nat.le_of_ble_eq_true rfl, Nat.le_of_ble_eq_true rfl⟩ (Nat.le_of_ble_eq_true rfl) ?_
              refine v_if_eq_b 73 rfl aX8_faultOf_49 (fun c49 => ?_) (fun c49 => ?_)
              · --
                refine v_iconst aX8_faultOf_73 ?_
                refine v_istore aX8_faultOf_74 (by decide) rfl ?_
                refine v_iload_n aX8_faultOf_76 rfl ?_
                refine v_iconst aX8_faultOf_77 ?_
                refine v_irem (by omega) (by omega) aX8_faultOf_78 ?_
                refine v_if_ne 90 rfl aX8_faultOf_79 (by omega) (fun c79 => ?_) (fun c79 => ?_)
                · --
                  refine v_iload_n aX8_faultOf_90 rfl ?_
                  refine v_if_ne 96 rfl aX8_faultOf_91 (by omega) (fun c91 => ?_) (fun c91 => ?_)
                  · --
                    refine v_iinc aX8_faultOf_96 rfl (by decide) rfl ?_
                    refine v_goto 2 rfl aX8_faultOf_99 ?_
                    refine ih (i + 1) _ (by omega) (by omega) (Or.inr ⟨_, _, _, rfl⟩) ?_
                    rw [if_pos (by omega), if_pos (by unfold mayS; first | (rw [if_pos (by omega)]; omega) | (rw [if_neg (by omega)]; omega))] at hh
                    exact hh
                  · --
                    refine v_iload_n aX8_faultOf_94 rfl ?_
                    refine v_ireturn aX8_faultOf_95 rfl ⟨Nat.le_refl _, Nat.le_refl _⟩ ?_
                    rw [if_pos (by omega), if_neg (by unfold mayS; first | (rw [if_pos (by omega)]; omega) | (rw [if_neg (by omega)]; omega))] at hh
                    exact hh
                · --
                  refine v_iload aX8_faultOf_82 rfl ?_
                  refine v_if_ne 96 rfl aX8_faultOf_84 (by omega) (fun c84 => ?_) (fun c84 => ?_)
                  · --
                    refine v_iinc aX8_faultOf_96 rfl (by decide) rfl ?_
                    refine v_goto 2 rfl aX8_faultOf_99 ?_
                    refine ih (i + 1) _ (by omega) (by omega) (Or.inr ⟨_, _, _, rfl⟩) ?_
                    rw [if_pos (by omega), if_pos (by unfold mayS; first | (rw [if_pos (by omega)]; omega) | (rw [if_neg (by omega)]; omega))] at hh
                    exact hh
                  · --
                    refine v_goto 94 rfl aX8_faultOf_87 ?_
                    refine v_iload_n aX8_faultOf_94 rfl ?_
                    refine v_ireturn aX8_faultOf_95 rfl ⟨Nat.le_refl _, Nat.le_refl _⟩ ?_
                    rw [if_pos (by omega), if_neg (by unfold mayS; first | (rw [if_pos (by omega)]; omega) | (rw [if_neg (by omega)]; omega))] at hh
                    exact hh
              · --
                refine v_iload_n aX8_faultOf_52 rfl ?_
                refine v_iconst aX8_faultOf_53 ?_
                refine v_icmp_lt 69 rfl aX8_faultOf_54 (by omega) (by omega) (fun c54 => ?_) (fun c54 => ?_)
                · --
                  refine v_iconst aX8_faultOf_69 ?_
                  refine v_goto 74 rfl aX8_faultOf_70 ?_
                  refine v_istore aX8_faultOf_74 (by decide) rfl ?_
                  refine v_iload_n aX8_faultOf_76 rfl ?_
                  refine v_iconst aX8_faultOf_77 ?_
                  refine v_irem (by omega) (by omega) aX8_faultOf_78 ?_
                  refine v_if_ne 90 rfl aX8_faultOf_79 (by omega) (fun c79 => ?_) (fun c79 => ?_)
                  · --
                    refine v_iload_n aX8_faultOf_90 rfl ?_
                    refine v_if_ne 96 rfl aX8_faultOf_91 (by omega) (fun c91 => ?_) (fun c91 => ?_)
                    · --
                      refine v_iinc aX8_faultOf_96 rfl (by decide) rfl ?_
                      refine v_goto 2 rfl aX8_faultOf_99 ?_
                      refine ih (i + 1) _ (by omega) (by omega) (Or.inr ⟨_, _, _, rfl⟩) ?_
                      rw [if_pos (by omega), if_pos (by unfold mayS; first | (rw [if_pos (by omega)]; omega) | (rw [if_neg (by omega)]; omega))] at hh
                      exact hh
                    · --
                      refine v_iload_n aX8_faultOf_94 rfl ?_
                      refine v_ireturn aX8_faultOf_95 rfl ⟨Nat.le_refl _, Nat.le_refl _⟩ ?_
                      rw [if_pos (by omega), if_neg (by unfold mayS; first | (rw [if_pos (by omega)]; omega) | (rw [if_neg (by omega)]; omega))] at hh
                      exact hh
                  · --
                    refine v_iload aX8_faultOf_82 rfl ?_
                    refine v_if_ne 96 rfl aX8_faultOf_84 (by omega) (fun c84 => ?_) (fun c84 => ?_)
                    · --
                      refine v_iinc aX8_faultOf_96 rfl (by decide) rfl ?_
                      refine v_goto 2 rfl aX8_faultOf_99 ?_
                      refine ih (i + 1) _ (by omega) (by omega) (Or.inr ⟨_, _, _, rfl⟩) ?_
                      rw [if_pos (by omega), if_pos (by unfold mayS; first | (rw [if_pos (by omega)]; omega) | (rw [if_neg (by omega)]; omega))] at hh
                      exact hh
                    · --
                      refine v_goto 94 rfl aX8_faultOf_87 ?_
                      refine v_iload_n aX8_faultOf_94 rfl ?_
                      refine v_ireturn aX8_faultOf_95 rfl ⟨Nat.le_refl _, Nat.le_refl _⟩ ?_
                      rw [if_pos (by omega), if_neg (by unfold mayS; first | (rw [if_pos (by omega)]; omega) | (rw [if_neg (by omega)]; omega))] at hh
                      exact hh
                · --
                  have hgj := hg (i - 2) (by omega) (by omega)
                  refine v_aload_n aX8_faultOf_57 rfl ?_
                  refine v_getr aX8_faultOf_58 fX8_13 hM.p rfl rfl ?_
                  refine v_iload_n aX8_faultOf_61 rfl ?_
                  refine v_iconst aX8_faultOf_62 ?_
                  refine v_isub aX8_faultOf_63 ?_
                  refine v_iald aX8_faultOf_64 hM.p_pad (by omega) (by decide) ?_
                  rw [fg]
                  refine v_iload_n aX8_faultOf_65 rfl ?_
                  refine v_icmp_eq 73 rfl aX8_faultOf_66 (by omega) (by omega) (fun c66 => ?_) (fun c66 => ?_)
                  · --
                    refine v_iconst aX8_faultOf_73 ?_
                    refine v_istore aX8_faultOf_74 (by decide) rfl ?_
                    refine v_iload_n aX8_faultOf_76 rfl ?_
                    refine v_iconst aX8_faultOf_77 ?_
                    refine v_irem (by omega) (by omega) aX8_faultOf_78 ?_
                    refine v_if_ne 90 rfl aX8_faultOf_79 (by omega) (fun c79 => ?_) (fun c79 => ?_)
                    · --
                      refine v_iload_n aX8_faultOf_90 rfl ?_
                      refine v_if_ne 96 rfl aX8_faultOf_91 (by omega) (fun c91 => ?_) (fun c91 => ?_)
                      · --
                        refine v_iinc aX8_faultOf_96 rfl (by decide) rfl ?_
                        refine v_goto 2 rfl aX8_faultOf_99 ?_
                        refine ih (i + 1) _ (by omega) (by omega) (Or.inr ⟨_, _, _, rfl⟩) ?_
                        rw [if_pos (by omega), if_pos (by unfold mayS; first | (rw [if_pos (by omega)]; omega) | (rw [if_neg (by omega)]; omega))] at hh
                        exact hh
                      · --
                        refine v_iload_n aX8_faultOf_94 rfl ?_
                        refine v_ireturn aX8_faultOf_95 rfl ⟨Nat.le_refl _, Nat.le_refl _⟩ ?_
                        rw [if_pos (by omega), if_neg (by unfold mayS; first | (rw [if_pos (by omega)]; omega) | (rw [if_neg (by omega)]; omega))] at hh
                        exact hh
                    · --
                      refine v_iload aX8_faultOf_82 rfl ?_
                      refine v_if_ne 96 rfl aX8_faultOf_84 (by omega) (fun c84 => ?_) (fun c84 => ?_)
                      · --
                        refine v_iinc aX8_faultOf_96 rfl (by decide) rfl ?_
                        refine v_goto 2 rfl aX8_faultOf_99 ?_
                        refine ih (i + 1) _ (by omega) (by omega) (Or.inr ⟨_, _, _, rfl⟩) ?_
                        rw [if_pos (by omega), if_pos (by unfold mayS; first | (rw [if_pos (by omega)]; omega) | (rw [if_neg (by omega)]; omega))] at hh
                        exact hh
                      · --
                        refine v_goto 94 rfl aX8_faultOf_87 ?_
                        refine v_iload_n aX8_faultOf_94 rfl ?_
                        refine v_ireturn aX8_faultOf_95 rfl ⟨Nat.le_refl _, Nat.le_refl _⟩ ?_
                        rw [if_pos (by omega), if_neg (by unfold mayS; first | (rw [if_pos (by omega)]; omega) | (rw [if_neg (by omega)]; omega))] at hh
                        exact hh
                  · --
                    refine v_iconst aX8_faultOf_69 ?_
                    refine v_goto 74 rfl aX8_faultOf_70 ?_
                    refine v_istore aX8_faultOf_74 (by decide) rfl ?_
                    refine v_iload_n aX8_faultOf_76 rfl ?_
                    refine v_iconst aX8_faultOf_77 ?_
                    refine v_irem (by omega) (by omega) aX8_faultOf_78 ?_
                    refine v_if_ne 90 rfl aX8_faultOf_79 (by omega) (fun c79 => ?_) (fun c79 => ?_)
                    · --
                      refine v_iload_n aX8_faultOf_90 rfl ?_
                      refine v_if_ne 96 rfl aX8_faultOf_91 (by omega) (fun c91 => ?_) (fun c91 => ?_)
                      · --
                        refine v_iinc aX8_faultOf_96 rfl (by decide) rfl ?_
                        refine v_goto 2 rfl aX8_faultOf_99 ?_
                        refine ih (i + 1) _ (by omega) (by omega) (Or.inr ⟨_, _, _, rfl⟩) ?_
                        rw [if_pos (by omega), if_pos (by unfold mayS; first | (rw [if_pos (by omega)]; omega) | (rw [if_neg (by omega)]; omega))] at hh
                        exact hh
                      · --
                        refine v_iload_n aX8_faultOf_94 rfl ?_
                        refine v_ireturn aX8_faultOf_95 rfl ⟨Nat.le_refl _, Nat.le_refl _⟩ ?_
                        rw [if_pos (by omega), if_neg (by unfold mayS; first | (rw [if_pos (by omega)]; omega) | (rw [if_neg (by omega)]; omega))] at hh
                        exact hh
                    · --
                      refine v_iload aX8_faultOf_82 rfl ?_
                      refine v_if_ne 96 rfl aX8_faultOf_84 (by omega) (fun c84 => ?_) (fun c84 => ?_)
                      · --
                        refine v_iinc aX8_faultOf_96 rfl (by decide) rfl ?_
                        refine v_goto 2 rfl aX8_faultOf_99 ?_
                        refine ih (i + 1) _ (by omega) (by omega) (Or.inr ⟨_, _, _, rfl⟩) ?_
                        rw [if_pos (by omega), if_pos (by unfold mayS; first | (rw [if_pos (by omega)]; omega) | (rw [if_neg (by omega)]; omega))] at hh
                        exact hh
                      · --
                        refine v_goto 94 rfl aX8_faultOf_87 ?_
                        refine v_iload_n aX8_faultOf_94 rfl ?_
                        refine v_ireturn aX8_faultOf_95 rfl ⟨Nat.le_refl _, Nat.le_refl _⟩ ?_
                        rw [if_pos (by omega), if_neg (by unfold mayS; first | (rw [if_pos (by omega)]; omega) | (rw [if_neg (by omega)]; omega))] at hh
                        exact hh
            · --
              refine v_iconst aX8_faultOf_35 ?_
              refine v_goto 40 rfl aX8_faultOf_36 ?_
              refine v_istore_n aX8_faultOf_40 (by decide) rfl ?_
              refine v_aload_n aX8_faultOf_41 rfl ?_
              refine v_iload_n aX8_faultOf_42 rfl ?_
              refine v_bipush (by decide) aX8_faultOf_43 ?_
              refine v_isub aX8_faultOf_45 ?_
              refine v_cVi (c_X8_isSack hM (by omega) (by omega)) aX8_faultOf_46 mX8_isSack vX8_isSack lX8_89 hM.p rfl rfl rfl rfl rfl (Nat.le_of_ble_eq_true rfl) ⟨Nat.le_of_ble_eq_true rfl, Nat.le_of_ble_eq_true rfl⟩ (Nat.le_of_ble_eq_true rfl) ?_
              refine v_if_eq_b 73 rfl aX8_faultOf_49 (fun c49 => ?_) (fun c49 => ?_)
              · --
                refine v_iconst aX8_faultOf_73 ?_
                refine v_istore aX8_faultOf_74 (by decide) rfl ?_
                refine v_iload_n aX8_faultOf_76 rfl ?_
                refine v_iconst aX8_faultOf_77 ?_
                refine v_irem (by omega) (by omega) aX8_faultOf_78 ?_
                refine v_if_ne 90 rfl aX8_faultOf_79 (by omega) (fun c79 => ?_) (fun c79 => ?_)
                · --
                  refine v_iload_n aX8_faultOf_90 rfl ?_
                  refine v_if_ne 96 rfl aX8_faultOf_91 (by omega) (fun c91 => ?_) (fun c91 => ?_)
                  · --
                    refine v_iinc aX8_faultOf_96 rfl (by decide) rfl ?_
                    refine v_goto 2 rfl aX8_faultOf_99 ?_
                    refine ih (i + 1) _ (by omega) (by omega) (Or.inr ⟨_, _, _, rfl⟩) ?_
                    rw [if_pos (by omega), if_pos (by unfold mayS; first | (rw [if_pos (by omega)]; omega) | (rw [if_neg (by omega)]; omega))] at hh
                    exact hh
                  · --
                    refine v_iload_n aX8_faultOf_94 rfl ?_
                    refine v_ireturn aX8_faultOf_95 rfl ⟨Nat.le_refl _, Nat.le_refl _⟩ ?_
                    rw [if_pos (by omega), if_neg (by unfold mayS; first | (rw [if_pos (by omega)]; omega) | (rw [if_neg (by omega)]; omega))] at hh
                    exact hh
                · --
                  refine v_iload aX8_faultOf_82 rfl ?_
                  refine v_if_ne 96 rfl aX8_faultOf_84 (by omega) (fun c84 => ?_) (fun c84 => ?_)
                  · --
                    refine v_iinc aX8_faultOf_96 rfl (by decide) rfl ?_
                    refine v_goto 2 rfl aX8_faultOf_99 ?_
                    refine ih (i + 1) _ (by omega) (by omega) (Or.inr ⟨_, _, _, rfl⟩) ?_
                    rw [if_pos (by omega), if_pos (by unfold mayS; first | (rw [if_pos (by omega)]; omega) | (rw [if_neg (by omega)]; omega))] at hh
                    exact hh
                  · --
                    refine v_goto 94 rfl aX8_faultOf_87 ?_
                    refine v_iload_n aX8_faultOf_94 rfl ?_
                    refine v_ireturn aX8_faultOf_95 rfl ⟨Nat.le_refl _, Nat.le_refl _⟩ ?_
                    rw [if_pos (by omega), if_neg (by unfold mayS; first | (rw [if_pos (by omega)]; omega) | (rw [if_neg (by omega)]; omega))] at hh
                    exact hh
              · --
                refine v_iload_n aX8_faultOf_52 rfl ?_
                refine v_iconst aX8_faultOf_53 ?_
                refine v_icmp_lt 69 rfl aX8_faultOf_54 (by omega) (by omega) (fun c54 => ?_) (fun c54 => ?_)
                · --
                  refine v_iconst aX8_faultOf_69 ?_
                  refine v_goto 74 rfl aX8_faultOf_70 ?_
                  refine v_istore aX8_faultOf_74 (by decide) rfl ?_
                  refine v_iload_n aX8_faultOf_76 rfl ?_
                  refine v_iconst aX8_faultOf_77 ?_
                  refine v_irem (by omega) (by omega) aX8_faultOf_78 ?_
                  refine v_if_ne 90 rfl aX8_faultOf_79 (by omega) (fun c79 => ?_) (fun c79 => ?_)
                  · --
                    refine v_iload_n aX8_faultOf_90 rfl ?_
                    refine v_if_ne 96 rfl aX8_faultOf_91 (by omega) (fun c91 => ?_) (fun c91 => ?_)
                    · --
                      refine v_iinc aX8_faultOf_96 rfl (by decide) rfl ?_
                      refine v_goto 2 rfl aX8_faultOf_99 ?_
                      refine ih (i + 1) _ (by omega) (by omega) (Or.inr ⟨_, _, _, rfl⟩) ?_
                      rw [if_pos (by omega), if_pos (by unfold mayS; first | (rw [if_pos (by omega)]; omega) | (rw [if_neg (by omega)]; omega))] at hh
                      exact hh
                    · --
                      refine v_iload_n aX8_faultOf_94 rfl ?_
                      refine v_ireturn aX8_faultOf_95 rfl ⟨Nat.le_refl _, Nat.le_refl _⟩ ?_
                      rw [if_pos (by omega), if_neg (by unfold mayS; first | (rw [if_pos (by omega)]; omega) | (rw [if_neg (by omega)]; omega))] at hh
                      exact hh
                  · --
                    refine v_iload aX8_faultOf_82 rfl ?_
                    refine v_if_ne 96 rfl aX8_faultOf_84 (by omega) (fun c84 => ?_) (fun c84 => ?_)
                    · --
                      refine v_iinc aX8_faultOf_96 rfl (by decide) rfl ?_
                      refine v_goto 2 rfl aX8_faultOf_99 ?_
                      refine ih (i + 1) _ (by omega) (by omega) (Or.inr ⟨_, _, _, rfl⟩) ?_
                      rw [if_pos (by omega), if_pos (by unfold mayS; first | (rw [if_pos (by omega)]; omega) | (rw [if_neg (by omega)]; omega))] at hh
                      exact hh
                    · --
                      refine v_goto 94 rfl aX8_faultOf_87 ?_
                      refine v_iload_n aX8_faultOf_94 rfl ?_
                      refine v_ireturn aX8_faultOf_95 rfl ⟨Nat.le_refl _, Nat.le_refl _⟩ ?_
                      rw [if_pos (by omega), if_neg (by unfold mayS; first | (rw [if_pos (by omega)]; omega) | (rw [if_neg (by omega)]; omega))] at hh
                      exact hh
                · --
                  have hgj := hg (i - 2) (by omega) (by omega)
                  refine v_aload_n aX8_faultOf_57 rfl ?_
                  refine v_getr aX8_faultOf_58 fX8_13 hM.p rfl rfl ?_
                  refine v_iload_n aX8_faultOf_61 rfl ?_
                  refine v_iconst aX8_faultOf_62 ?_
                  refine v_isub aX8_faultOf_63 ?_
                  refine v_iald aX8_faultOf_64 hM.p_pad (by omega) (by decide) ?_
                  rw [fg]
                  refine v_iload_n aX8_faultOf_65 rfl ?_
                  refine v_icmp_eq 73 rfl aX8_faultOf_66 (by omega) (by omega) (fun c66 => ?_) (fun c66 => ?_)
                  · --
                    refine v_iconst aX8_faultOf_73 ?_
                    refine v_istore aX8_faultOf_74 (by decide) rfl ?_
                    refine v_iload_n aX8_faultOf_76 rfl ?_
                    refine v_iconst aX8_faultOf_77 ?_
                    refine v_irem (by omega) (by omega) aX8_faultOf_78 ?_
                    refine v_if_ne 90 rfl aX8_faultOf_79 (by omega) (fun c79 => ?_) (fun c79 => ?_)
                    · --
                      refine v_iload_n aX8_faultOf_90 rfl ?_
                      refine v_if_ne 96 rfl aX8_faultOf_91 (by omega) (fun c91 => ?_) (fun c91 => ?_)
                      · --
                        refine v_iinc aX8_faultOf_96 rfl (by decide) rfl ?_
                        refine v_goto 2 rfl aX8_faultOf_99 ?_
                        refine ih (i + 1) _ (by omega) (by omega) (Or.inr ⟨_, _, _, rfl⟩) ?_
                        rw [if_pos (by omega), if_pos (by unfold mayS; first | (rw [if_pos (by omega)]; omega) | (rw [if_neg (by omega)]; omega))] at hh
                        exact hh
                      · --
                        refine v_iload_n aX8_faultOf_94 rfl ?_
                        refine v_ireturn aX8_faultOf_95 rfl ⟨Nat.le_refl _, Nat.le_refl _⟩ ?_
                        rw [if_pos (by omega), if_neg (by unfold mayS; first | (rw [if_pos (by omega)]; omega) | (rw [if_neg (by omega)]; omega))] at hh
                        exact hh
                    · --
                      refine v_iload aX8_faultOf_82 rfl ?_
                      refine v_if_ne 96 rfl aX8_faultOf_84 (by omega) (fun c84 => ?_) (fun c84 => ?_)
                      · --
                        refine v_iinc aX8_faultOf_96 rfl (by decide) rfl ?_
                        refine v_goto 2 rfl aX8_faultOf_99 ?_
                        refine ih (i + 1) _ (by omega) (by omega) (Or.inr ⟨_, _, _, rfl⟩) ?_
                        rw [if_pos (by omega), if_pos (by unfold mayS; first | (rw [if_pos (by omega)]; omega) | (rw [if_neg (by omega)]; omega))] at hh
                        exact hh
                      · --
                        refine v_goto 94 rfl aX8_faultOf_87 ?_
                        refine v_iload_n aX8_faultOf_94 rfl ?_
                        refine v_ireturn aX8_faultOf_95 rfl ⟨Nat.le_refl _, Nat.le_refl _⟩ ?_
                        rw [if_pos (by omega), if_neg (by unfold mayS; first | (rw [if_pos (by omega)]; omega) | (rw [if_neg (by omega)]; omega))] at hh
                        exact hh
                  · --
                    refine v_iconst aX8_faultOf_69 ?_
                    refine v_goto 74 rfl aX8_faultOf_70 ?_
                    refine v_istore aX8_faultOf_74 (by decide) rfl ?_
                    refine v_iload_n aX8_faultOf_76 rfl ?_
                    refine v_iconst aX8_faultOf_77 ?_
                    refine v_irem (by omega) (by omega) aX8_faultOf_78 ?_
                    refine v_if_ne 90 rfl aX8_faultOf_79 (by omega) (fun c79 => ?_) (fun c79 => ?_)
                    · --
                      refine v_iload_n aX8_faultOf_90 rfl ?_
                      refine v_if_ne 96 rfl aX8_faultOf_91 (by omega) (fun c91 => ?_) (fun c91 => ?_)
                      · --
                        refine v_iinc aX8_faultOf_96 rfl (by decide) rfl ?_
                        refine v_goto 2 rfl aX8_faultOf_99 ?_
                        refine ih (i + 1) _ (by omega) (by omega) (Or.inr ⟨_, _, _, rfl⟩) ?_
                        rw [if_pos (by omega), if_pos (by unfold mayS; first | (rw [if_pos (by omega)]; omega) | (rw [if_neg (by omega)]; omega))] at hh
                        exact hh
                      · --
                        refine v_iload_n aX8_faultOf_94 rfl ?_
                        refine v_ireturn aX8_faultOf_95 rfl ⟨Nat.le_refl _, Nat.le_refl _⟩ ?_
                        rw [if_pos (by omega), if_neg (by unfold mayS; first | (rw [if_pos (by omega)]; omega) | (rw [if_neg (by omega)]; omega))] at hh
                        exact hh
                    · --
                      refine v_iload aX8_faultOf_82 rfl ?_
                      refine v_if_ne 96 rfl aX8_faultOf_84 (by omega) (fun c84 => ?_) (fun c84 => ?_)
                      · --
                        refine v_iinc aX8_faultOf_96 rfl (by decide) rfl ?_
                        refine v_goto 2 rfl aX8_faultOf_99 ?_
                        refine ih (i + 1) _ (by omega) (by omega) (Or.inr ⟨_, _, _, rfl⟩) ?_
                        rw [if_pos (by omega), if_pos (by unfold mayS; first | (rw [if_pos (by omega)]; omega) | (rw [if_neg (by omega)]; omega))] at hh
                        exact hh
                      · --
                        refine v_goto 94 rfl aX8_faultOf_87 ?_
                        refine v_iload_n aX8_faultOf_94 rfl ?_
                        refine v_ireturn aX8_faultOf_95 rfl ⟨Nat.le_refl _, Nat.le_refl _⟩ ?_
                        rw [if_pos (by omega), if_neg (by unfold mayS; first | (rw [if_pos (by omega)]; omega) | (rw [if_neg (by omega)]; omega))] at hh
                        exact hh
    rcases hL with rfl | ⟨a, b, c, rfl⟩
    · exact hL2
    · exact v_take 2 rfl hL2
set_option maxHeartbeats 4000000 in
set_option maxRecDepth 100000 in
theorem c_X8_faultOf (hM : ModS S m) (h : MoAt μ m t g n) (ht : 2 ≤ t.1 ∧ t.1 ≤ 6) (hp : PadOk g n) : Ct l G cX8_faultOf (yX8_faultOf, 5, (some FieldType.int), 2, 0, 0) [.ref m] S μ (Ri S (sp_fault t g n) μ) := by
  have f0 : μ m 0 = t.1 := h.1.1
  have f3 : μ m 3 = t.2.1 := h.1.2.1
  have f9 : μ m 9 = t.2.2.1 := h.1.2.2.1
  have f1 : μ m 1 = n := h.2.2
  obtain ⟨hn, hg⟩ := id hp
  have fg : μ (m + 1) = g := h.2.1
  refine Ct.of (by decide) rfl (by simp [vi, Value.category]) (Nat.le_of_ble_eq_true rfl) ?_
  refine v_iconst aX8_faultOf_0 ?_
  refine v_istore_n aX8_faultOf_1 (by decide) rfl ?_
  exact l_X8_faultOf hM h ht hp 41 0 _ (by omega) (by omega) (Or.inl rfl) ⟨rfl, rfl, rfl⟩
set_option maxHeartbeats 4000000 in
set_option maxRecDepth 100000 in
theorem c_X8_fault (hM : ModS S m) (h : MoAt μ m t g n) (ht : 2 ≤ t.1 ∧ t.1 ≤ 6) (hp : PadOk g n) : Ct l G cX8_fault (yX8_fault, 1, (some FieldType.int), 3, 0, 0) [.ref m] S μ (Re S (fun z μ' => z = sp_fault t g n ∧ MoAt μ' m t g n ∧ Out μ μ' m 20)) := by
  have f0 : μ m 0 = t.1 := h.1.1
  have f3 : μ m 3 = t.2.1 := h.1.2.1
  have f9 : μ m 9 = t.2.2.1 := h.1.2.2.1
  have f1 : μ m 1 = n := h.2.2
  obtain ⟨hn, hg⟩ := id hp
  have fg : μ (m + 1) = g := h.2.1
  refine Ct.of (by decide) rfl (by simp [vi, Value.category]) (Nat.le_of_ble_eq_true rfl) ?_
  refine v_aload_n aX8_fault_0 rfl ?_
  refine v_cVi (c_X8_faultOf hM h ht hp) aX8_fault_1 mX8_faultOf vX8_faultOf lX8_93 hM.p rfl rfl rfl rfl rfl (Nat.le_of_ble_eq_true rfl) ⟨Nat.le_of_ble_eq_true rfl, Nat.le_of_ble_eq_true rfl⟩ (Nat.le_of_ble_eq_true rfl) ?_
  refine v_ireturn aX8_fault_4 rfl ⟨Nat.le_refl _, Nat.le_refl _⟩ ?_
  exact ⟨_, rfl, rfl, rfl, h, Out.rf⟩
set_option maxHeartbeats 4000000 in
set_option maxRecDepth 100000 in
theorem c_X8_strike (hM : ModS S m) (h : MoAt μ m t g n) (hc : 0 ≤ t.2.1 ∧ t.2.1 ≤ 12) : Ct l G cX8_strike (yX8_strike, 1, (some FieldType.int), 0, 0, 0) [.ref m] S μ (Re S (fun z μ' => z = (sp_strike t).1 ∧ MoAt μ' m (sp_strike t).2 g n ∧ Out μ μ' m 20)) := by
  have f0 : μ m 0 = t.1 := h.1.1
  have f3 : μ m 3 = t.2.1 := h.1.2.1
  have f9 : μ m 9 = t.2.2.1 := h.1.2.2.1
  have f1 : μ m 1 = n := h.2.2
  refine Ct.of (by decide) rfl (by simp [vi, Value.category]) (Nat.le_of_ble_eq_true rfl) ?_
  refine v_aload_n aX8_strike_0 rfl ?_
  refine v_gi 3 rfl aX8_strike_1 fX8_83 hM.p rfl rfl ?_
  rw [f3]
  refine v_if_ne 10 rfl aX8_strike_4 (by omega) (fun c4 => ?_) (fun c4 => ?_)
  · --
    refine v_aload_n aX8_strike_10 rfl ?_
    refine v_dup rfl aX8_strike_11 ?_
    refine v_gi 3 rfl aX8_strike_12 fX8_83 hM.p rfl rfl ?_
    rw [f3]
    refine v_iconst aX8_strike_15 ?_
    refine v_isub aX8_strike_16 ?_
    refine v_pi 3 rfl aX8_strike_17 fX8_83 nf8_3 ok8_3 hM.p rfl rfl ?_
    refine v_aload_n aX8_strike_20 rfl ?_
    refine v_gi 3 rfl aX8_strike_21 fX8_83 hM.p rfl rfl ?_
    rw [upd2_same]
    refine v_ireturn aX8_strike_24 rfl ⟨Nat.le_refl _, Nat.le_refl _⟩ ?_
    unfold sp_strike
    rw [if_neg (by omega)]
    exact ⟨_, rfl, rfl, rfl, h.set_c, Out.upd (by omega)⟩
  · --
    refine v_bipush (by decide) aX8_strike_7 ?_
    refine v_ireturn aX8_strike_9 rfl ⟨Nat.le_refl _, Nat.le_refl _⟩ ?_
    rw [show sp_strike t = (-5, t) from if_pos (by omega)]
    exact ⟨_, rfl, rfl, rfl, h, Out.rf⟩
set_option maxHeartbeats 4000000 in
set_option maxRecDepth 100000 in
theorem c_X8_saying {i w : Int} (hM : ModS S m) (h : MoAt μ m t g n) (hi : (-2147483648 ≤ i ∧ i < 2147483648)) (hw : (-2147483648 ≤ w ∧ w < 2147483648)) (hc : 0 ≤ t.2.1 ∧ t.2.1 ≤ 12) : Ct l G cX8_saying (yX8_saying, 3, (some FieldType.int), 1, 0, 0) [.ref m, vi i, vi w] S μ (Re S (fun z μ' => z = sp_saying t i w ∧ MoAt μ' m t g n ∧ Out μ μ' m 20)) := by
  have f0 : μ m 0 = t.1 := h.1.1
  have f3 : μ m 3 = t.2.1 := h.1.2.1
  have f9 : μ m 9 = t.2.2.1 := h.1.2.2.1
  have f1 : μ m 1 = n := h.2.2
  refine Ct.of (by decide) rfl (by simp [vi, Value.category]) (Nat.le_of_ble_eq_true rfl) ?_
  refine v_iload_n aX8_saying_0 rfl ?_
  refine v_iconst aX8_saying_1 ?_
  refine v_aload_n aX8_saying_2 rfl ?_
  refine v_gi 3 rfl aX8_saying_3 fX8_83 hM.p rfl rfl ?_
  rw [f3]
  refine v_iconst aX8_saying_6 ?_
  refine v_isub aX8_saying_7 ?_
  refine v_cSi (c_X8_in (by omega) (by omega) (by omega)) aX8_saying_8 mX8_in sX8_in lX8_79 rfl rfl (Nat.le_of_ble_eq_true rfl) ⟨Nat.le_of_ble_eq_true rfl, Nat.le_of_ble_eq_true rfl⟩ (Nat.le_of_ble_eq_true rfl) ?_
  refine v_if_ne_b 16 rfl aX8_saying_11 (fun c11 => ?_) (fun c11 => ?_)
  · --
    refine v_iload_n aX8_saying_16 rfl ?_
    refine v_iconst aX8_saying_17 ?_
    refine v_iconst aX8_saying_18 ?_
    refine v_cSi (c_X8_in (by omega) (by omega) (by omega)) aX8_saying_19 mX8_in sX8_in lX8_79 rfl rfl (Nat.le_of_ble_eq_true rfl) ⟨Nat.le_of_ble_eq_true rfl, Nat.le_of_ble_eq_true rfl⟩ (Nat.le_of_ble_eq_true rfl) ?_
    refine v_if_eq_b 38 rfl aX8_saying_22 (fun c22 => ?_) (fun c22 => ?_)
    · --
      refine v_bipush (by decide) aX8_saying_38 ?_
      refine v_ireturn aX8_saying_40 rfl ⟨Nat.le_refl _, Nat.le_refl _⟩ ?_
      unfold sp_saying
      rw [if_pos (by omega)]
      first
        | (rw [if_pos c22]; exact ⟨_, rfl, rfl, h.1.2.2.2.1 _ (by omega) (by omega), h, Out.rf⟩)
        | (rw [if_neg c22]; exact ⟨_, rfl, rfl, rfl, h, Out.rf⟩)
    · --
      refine v_aload_n aX8_saying_25 rfl ?_
      refine v_getr aX8_saying_26 fX8_17 hM.p rfl rfl ?_
      refine v_iconst aX8_saying_29 ?_
      refine v_iload_n aX8_saying_30 rfl ?_
      refine v_imul aX8_saying_31 ?_
      refine v_iload_n aX8_saying_32 rfl ?_
      refine v_iadd aX8_saying_33 ?_
      refine v_iald aX8_saying_34 hM.p_book (by omega) (by decide) ?_
      refine v_goto 40 rfl aX8_saying_35 ?_
      refine v_ireturn aX8_saying_40 rfl ⟨Nat.le_refl _, Nat.le_refl _⟩ ?_
      unfold sp_saying
      rw [if_pos (by omega)]
      first
        | (rw [if_pos c22]; exact ⟨_, rfl, rfl, h.1.2.2.2.1 _ (by omega) (by omega), h, Out.rf⟩)
        | (rw [if_neg c22]; exact ⟨_, rfl, rfl, rfl, h, Out.rf⟩)
  · --
    refine v_iconst aX8_saying_14 ?_
    refine v_ireturn aX8_saying_15 rfl ⟨Nat.le_refl _, Nat.le_refl _⟩ ?_
    rw [show sp_saying t i w = -1 from if_neg (by omega)]
    exact ⟨_, rfl, rfl, rfl, h, Out.rf⟩
set_option maxHeartbeats 4000000 in
set_option maxRecDepth 100000 in
theorem c_X8_toll {r v : Int} (hM : ModS S m) (h : MoAt μ m t g n) (hr : (-2147483648 ≤ r ∧ r < 2147483648)) (hv : (-2147483648 ≤ v ∧ v < 2147483648)) : Ct l G cX8_toll (yX8_toll, 4, (some FieldType.int), 1, 0, 0) [.ref m, vi r, vi v] S μ (Re S (fun z μ' => z = (sp_toll t r v).1 ∧ MoAt μ' m (sp_toll t r v).2 g n ∧ Out μ μ' m 20)) := by
  have f0 : μ m 0 = t.1 := h.1.1
  have f3 : μ m 3 = t.2.1 := h.1.2.1
  have f9 : μ m 9 = t.2.2.1 := h.1.2.2.1
  have f1 : μ m 1 = n := h.2.2
  refine Ct.of (by decide) rfl (by simp [vi, Value.category]) (Nat.le_of_ble_eq_true rfl) ?_
  refine v_iload_n aX8_toll_0 rfl ?_
  refine v_iconst aX8_toll_1 ?_
  refine v_iconst aX8_toll_2 ?_
  refine v_cSi (c_X8_in (by omega) (by omega) (by omega)) aX8_toll_3 mX8_in sX8_in lX8_79 rfl rfl (Nat.le_of_ble_eq_true rfl) ⟨Nat.le_of_ble_eq_true rfl, Nat.le_of_ble_eq_true rfl⟩ (Nat.le_of_ble_eq_true rfl) ?_
  refine v_if_eq_b 19 rfl aX8_toll_6 (fun c6 => ?_) (fun c6 => ?_)
  · --
    refine v_bipush (by decide) aX8_toll_19 ?_
    refine v_ireturn aX8_toll_21 rfl ⟨Nat.le_refl _, Nat.le_refl _⟩ ?_
    rw [show sp_toll t r v = (-2, t) from if_neg (by omega)]
    exact ⟨_, rfl, rfl, rfl, h, Out.rf⟩
  · --
    refine v_iload_n aX8_toll_9 rfl ?_
    refine v_iconst aX8_toll_10 ?_
    refine v_bipush (by decide) aX8_toll_11 ?_
    refine v_cSi (c_X8_in (by omega) (by omega) (by omega)) aX8_toll_13 mX8_in sX8_in lX8_79 rfl rfl (Nat.le_of_ble_eq_true rfl) ⟨Nat.le_of_ble_eq_true rfl, Nat.le_of_ble_eq_true rfl⟩ (Nat.le_of_ble_eq_true rfl) ?_
    refine v_if_ne_b 22 rfl aX8_toll_16 (fun c16 => ?_) (fun c16 => ?_)
    · --
      refine v_aload_n aX8_toll_22 rfl ?_
      refine v_getr aX8_toll_23 fX8_23 hM.p rfl rfl ?_
      refine v_iload_n aX8_toll_26 rfl ?_
      refine v_iald aX8_toll_27 hM.p_tolls (by omega) (by decide) ?_
      refine v_istore_n aX8_toll_28 (by decide) rfl ?_
      refine v_aload_n aX8_toll_29 rfl ?_
      refine v_getr aX8_toll_30 fX8_23 hM.p rfl rfl ?_
      refine v_iload_n aX8_toll_33 rfl ?_
      refine v_iload_n aX8_toll_34 rfl ?_
      refine v_iast aX8_toll_35 hM.p_tolls (by omega) (by decide) ?_
      refine v_iload_n aX8_toll_36 rfl ?_
      refine v_ireturn aX8_toll_37 rfl ⟨Nat.le_refl _, Nat.le_refl _⟩ ?_
      unfold sp_toll
      rw [if_pos ⟨by omega, by omega⟩]
      exact ⟨_, rfl, rfl, h.1.2.2.2.2.2.2.2.1 r (by omega) (by omega), h.set_tl, Out.upd (by omega)⟩
    · --
      refine v_bipush (by decide) aX8_toll_19 ?_
      refine v_ireturn aX8_toll_21 rfl ⟨Nat.le_refl _, Nat.le_refl _⟩ ?_
      rw [show sp_toll t r v = (-2, t) from if_neg (by omega)]
      exact ⟨_, rfl, rfl, rfl, h, Out.rf⟩
set_option maxHeartbeats 4000000 in
set_option maxRecDepth 100000 in
theorem c_X8_known {s a b : Int} (hM : ModS S m) (h : MoAt μ m t g n) (hs : (-2147483648 ≤ s ∧ s < 2147483648)) (ha : (-2147483648 ≤ a ∧ a < 2147483648)) (hb : (-2147483648 ≤ b ∧ b < 2147483648)) (ht : 2 ≤ t.1 ∧ t.1 ≤ 6) : Ct l G cX8_known (yX8_known, 4, (some FieldType.int), 2, 0, 0) [.ref m, vi s, vi a, vi b] S μ (Re S (fun z μ' => z = (sp_known t s a b).1 ∧ MoAt μ' m (sp_known t s a b).2 g n ∧ Out μ μ' m 20)) := by
  have f0 : μ m 0 = t.1 := h.1.1
  have f3 : μ m 3 = t.2.1 := h.1.2.1
  have f9 : μ m 9 = t.2.2.1 := h.1.2.2.1
  have f1 : μ m 1 = n := h.2.2
  refine Ct.of (by decide) rfl (by simp [vi, Value.category]) (Nat.le_of_ble_eq_true rfl) ?_
  refine v_aload_n aX8_known_0 rfl ?_
  refine v_iload_n aX8_known_1 rfl ?_
  refine v_cVi (c_X8_isSack hM (by omega) (by omega)) aX8_known_2 mX8_isSack vX8_isSack lX8_89 hM.p rfl rfl rfl rfl rfl (Nat.le_of_ble_eq_true rfl) ⟨Nat.le_of_ble_eq_true rfl, Nat.le_of_ble_eq_true rfl⟩ (Nat.le_of_ble_eq_true rfl) ?_
  refine v_if_ne_b 10 rfl aX8_known_5 (fun c5 => ?_) (fun c5 => ?_)
  · --
    refine v_iload_n aX8_known_10 rfl ?_
    refine v_iconst aX8_known_11 ?_
    refine v_sipush (by decide) aX8_known_12 ?_
    refine v_cSi (c_X8_in (by omega) (by omega) (by omega)) aX8_known_15 mX8_in sX8_in lX8_79 rfl rfl (Nat.le_of_ble_eq_true rfl) ⟨Nat.le_of_ble_eq_true rfl, Nat.le_of_ble_eq_true rfl⟩ (Nat.le_of_ble_eq_true rfl) ?_
    refine v_if_eq_b 32 rfl aX8_known_18 (fun c18 => ?_) (fun c18 => ?_)
    · --
      refine v_bipush (by decide) aX8_known_32 ?_
      refine v_ireturn aX8_known_34 rfl ⟨Nat.le_refl _, Nat.le_refl _⟩ ?_
      unfold sp_known
      rw [if_pos (by omega), if_neg (by omega)]
      exact ⟨_, rfl, rfl, rfl, h, Out.rf⟩
    · --
      refine v_iload_n aX8_known_21 rfl ?_
      refine v_iload_n aX8_known_22 rfl ?_
      refine v_sipush (by decide) aX8_known_23 ?_
      refine v_cSi (c_X8_in (by omega) (by omega) (by omega)) aX8_known_26 mX8_in sX8_in lX8_79 rfl rfl (Nat.le_of_ble_eq_true rfl) ⟨Nat.le_of_ble_eq_true rfl, Nat.le_of_ble_eq_true rfl⟩ (Nat.le_of_ble_eq_true rfl) ?_
      refine v_if_ne_b 35 rfl aX8_known_29 (fun c29 => ?_) (fun c29 => ?_)
      · --
        refine v_aload_n aX8_known_35 rfl ?_
        refine v_getr aX8_known_36 fX8_26 hM.p rfl rfl ?_
        refine v_iload_n aX8_known_39 rfl ?_
        refine v_iload_n aX8_known_40 rfl ?_
        refine v_iast aX8_known_41 hM.p_low (by omega) (by decide) ?_
        refine v_aload_n aX8_known_42 rfl ?_
        refine v_getr aX8_known_43 fX8_29 hM.p rfl rfl ?_
        refine v_iload_n aX8_known_46 rfl ?_
        refine v_iload_n aX8_known_47 rfl ?_
        refine v_iast aX8_known_48 hM.p_high (by omega) (by decide) ?_
        refine v_iconst aX8_known_49 ?_
        refine v_ireturn aX8_known_50 rfl ⟨Nat.le_refl _, Nat.le_refl _⟩ ?_
        unfold sp_known
        rw [if_pos (by omega), if_pos (by omega)]
        exact ⟨_, rfl, rfl, rfl, (h.set_lo).set_hi, (Out.upd (by omega)).trans (Out.upd (by omega))⟩
      · --
        refine v_bipush (by decide) aX8_known_32 ?_
        refine v_ireturn aX8_known_34 rfl ⟨Nat.le_refl _, Nat.le_refl _⟩ ?_
        unfold sp_known
        rw [if_pos (by omega), if_neg (by omega)]
        exact ⟨_, rfl, rfl, rfl, h, Out.rf⟩
  · --
    refine v_iconst aX8_known_8 ?_
    refine v_ireturn aX8_known_9 rfl ⟨Nat.le_refl _, Nat.le_refl _⟩ ?_
    rw [show sp_known t s a b = (-1, t) from if_neg (by omega)]
    exact ⟨_, rfl, rfl, rfl, h, Out.rf⟩
set_option maxHeartbeats 4000000 in
set_option maxRecDepth 100000 in
theorem c_X8_loss {v : Int} (hM : ModS S m) (h : MoAt μ m t g n) (hv : (-2147483648 ≤ v ∧ v < 2147483648)) : Ct l G cX8_loss (yX8_loss, 3, (some FieldType.int), 1, 0, 0) [.ref m, vi v] S μ (Re S (fun z μ' => z = (sp_loss t v).1 ∧ MoAt μ' m (sp_loss t v).2 g n ∧ Out μ μ' m 20)) := by
  have f0 : μ m 0 = t.1 := h.1.1
  have f3 : μ m 3 = t.2.1 := h.1.2.1
  have f9 : μ m 9 = t.2.2.1 := h.1.2.2.1
  have f1 : μ m 1 = n := h.2.2
  refine Ct.of (by decide) rfl (by simp [vi, Value.category]) (Nat.le_of_ble_eq_true rfl) ?_
  refine v_iload_n aX8_loss_0 rfl ?_
  refine v_iconst aX8_loss_1 ?_
  refine v_bipush (by decide) aX8_loss_2 ?_
  refine v_cSi (c_X8_in (by omega) (by omega) (by omega)) aX8_loss_4 mX8_in sX8_in lX8_79 rfl rfl (Nat.le_of_ble_eq_true rfl) ⟨Nat.le_of_ble_eq_true rfl, Nat.le_of_ble_eq_true rfl⟩ (Nat.le_of_ble_eq_true rfl) ?_
  refine v_if_ne_b 13 rfl aX8_loss_7 (fun c7 => ?_) (fun c7 => ?_)
  · --
    refine v_aload_n aX8_loss_13 rfl ?_
    refine v_gi 9 rfl aX8_loss_14 fX8_168 hM.p rfl rfl ?_
    refine v_istore_n aX8_loss_17 (by decide) rfl ?_
    refine v_aload_n aX8_loss_18 rfl ?_
    refine v_iload_n aX8_loss_19 rfl ?_
    refine v_pi 9 rfl aX8_loss_20 fX8_168 nf8_9 ok8_9 hM.p rfl rfl ?_
    refine v_iload_n aX8_loss_23 rfl ?_
    refine v_ireturn aX8_loss_24 rfl ⟨Nat.le_refl _, Nat.le_refl _⟩ ?_
    unfold sp_loss
    rw [if_pos (by omega)]
    exact ⟨_, rfl, rfl, f9, h.set_l, Out.upd (by omega)⟩
  · --
    refine v_bipush (by decide) aX8_loss_10 ?_
    refine v_ireturn aX8_loss_12 rfl ⟨Nat.le_refl _, Nat.le_refl _⟩ ?_
    rw [show sp_loss t v = (-2, t) from if_neg (by omega)]
    exact ⟨_, rfl, rfl, rfl, h, Out.rf⟩
set_option maxHeartbeats 4000000 in
set_option maxRecDepth 100000 in
theorem c_X8_weight {s v : Int} (hM : ModS S m) (h : MoAt μ m t g n) (hs : (-2147483648 ≤ s ∧ s < 2147483648)) (hv : (-2147483648 ≤ v ∧ v < 2147483648)) (ht : 2 ≤ t.1 ∧ t.1 ≤ 6) : Ct l G cX8_weight (yX8_weight, 4, (some FieldType.int), 2, 0, 0) [.ref m, vi s, vi v] S μ (Re S (fun z μ' => z = (sp_weight t s v).1 ∧ MoAt μ' m (sp_weight t s v).2 g n ∧ Out μ μ' m 20)) := by
  have f0 : μ m 0 = t.1 := h.1.1
  have f3 : μ m 3 = t.2.1 := h.1.2.1
  have f9 : μ m 9 = t.2.2.1 := h.1.2.2.1
  have f1 : μ m 1 = n := h.2.2
  refine Ct.of (by decide) rfl (by simp [vi, Value.category]) (Nat.le_of_ble_eq_true rfl) ?_
  refine v_aload_n aX8_weight_0 rfl ?_
  refine v_iload_n aX8_weight_1 rfl ?_
  refine v_cVi (c_X8_isSack hM (by omega) (by omega)) aX8_weight_2 mX8_isSack vX8_isSack lX8_89 hM.p rfl rfl rfl rfl rfl (Nat.le_of_ble_eq_true rfl) ⟨Nat.le_of_ble_eq_true rfl, Nat.le_of_ble_eq_true rfl⟩ (Nat.le_of_ble_eq_true rfl) ?_
  refine v_if_ne_b 10 rfl aX8_weight_5 (fun c5 => ?_) (fun c5 => ?_)
  · --
    refine v_iload_n aX8_weight_10 rfl ?_
    refine v_iconst aX8_weight_11 ?_
    refine v_bipush (by decide) aX8_weight_12 ?_
    refine v_cSi (c_X8_in (by omega) (by omega) (by omega)) aX8_weight_14 mX8_in sX8_in lX8_79 rfl rfl (Nat.le_of_ble_eq_true rfl) ⟨Nat.le_of_ble_eq_true rfl, Nat.le_of_ble_eq_true rfl⟩ (Nat.le_of_ble_eq_true rfl) ?_
    refine v_if_ne_b 23 rfl aX8_weight_17 (fun c17 => ?_) (fun c17 => ?_)
    · --
      refine v_aload_n aX8_weight_23 rfl ?_
      refine v_getr aX8_weight_24 fX8_32 hM.p rfl rfl ?_
      refine v_iload_n aX8_weight_27 rfl ?_
      refine v_iald aX8_weight_28 hM.p_weights (by omega) (by decide) ?_
      refine v_istore_n aX8_weight_29 (by decide) rfl ?_
      refine v_aload_n aX8_weight_30 rfl ?_
      refine v_getr aX8_weight_31 fX8_32 hM.p rfl rfl ?_
      refine v_iload_n aX8_weight_34 rfl ?_
      refine v_iload_n aX8_weight_35 rfl ?_
      refine v_iast aX8_weight_36 hM.p_weights (by omega) (by decide) ?_
      refine v_iload_n aX8_weight_37 rfl ?_
      refine v_ireturn aX8_weight_38 rfl ⟨Nat.le_refl _, Nat.le_refl _⟩ ?_
      unfold sp_weight
      rw [if_pos (by omega), if_pos (by omega)]
      exact ⟨_, rfl, rfl, h.1.2.2.2.2.2.2.2.2 s (by omega) (by omega), h.set_wt, Out.upd (by omega)⟩
    · --
      refine v_bipush (by decide) aX8_weight_20 ?_
      refine v_ireturn aX8_weight_22 rfl ⟨Nat.le_refl _, Nat.le_refl _⟩ ?_
      unfold sp_weight
      rw [if_pos (by omega), if_neg (by omega)]
      exact ⟨_, rfl, rfl, rfl, h, Out.rf⟩
  · --
    refine v_iconst aX8_weight_8 ?_
    refine v_ireturn aX8_weight_9 rfl ⟨Nat.le_refl _, Nat.le_refl _⟩ ?_
    rw [show sp_weight t s v = (-1, t) from if_neg (by omega)]
    exact ⟨_, rfl, rfl, rfl, h, Out.rf⟩
end MOD1
