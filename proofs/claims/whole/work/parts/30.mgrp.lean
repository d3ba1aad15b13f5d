/-! groups, ranks: the model -/
def FolR (μ : Mu) (m : Nat) (R : Rl) : Prop := Mat (μ (m + 9)) (fun i j => R i j ∧ R j i) ∧ Mat (μ (m + 8)) (fun i j => R i j ∧ ¬ R j i)
theorem Fol.toR {μ : Mu} {m : Nat} {t : BSt} {Sel : Int → Prop} (h : Fol μ m t Sel) (hc : Can t Sel) : FolR μ m (Rg t Sel) := by
  have hq := (can_iff (S0 := sEq t Sel) (O := sGt t Sel) sEq_r).mp hc
  exact ⟨h.1.eq fun a b _ _ _ _ => (alike_iff sEq_r sEq_s hq a b).symm, h.2.eq fun a b _ _ _ _ => (heavier_iff sEq_r sEq_s hq a b).symm⟩
theorem MoAt.kp {μ μ' : Mu} {m : Nat} {t : BSt} {g : Int → Int} {n : Int} (h : MoAt μ m t g n) (e0 : ∀ i : Int, i < 13 → μ' m i = μ m i) (e : ∀ q : Nat, m < q → q < m + 8 → μ' q = μ q) : MoAt μ' m t g n := by
  obtain ⟨⟨h1, h2, h3, h4, h5, h6, h7, h8, h9⟩, hg, hn⟩ := h
  refine ⟨⟨by rw [e0 _ (by decide)]; exact h1, by rw [e0 _ (by decide)]; exact h2, by rw [e0 _ (by decide)]; exact h3, ?_, ?_, ?_, ?_, ?_, ?_⟩, ?_, by rw [e0 _ (by decide)]; exact hn⟩
  · rw [e _ (by omega) (by omega)]; exact h4
  · rw [e _ (by omega) (by omega)]; exact h5
  · rw [e _ (by omega) (by omega)]; exact h6
  · rw [e _ (by omega) (by omega)]; exact h7
  · rw [e _ (by omega) (by omega)]; exact h8
  · rw [e _ (by omega) (by omega)]; exact h9
  · rw [e _ (by omega) (by omega)]; exact hg
theorem cnt_lt {p : Int → Prop} {j : Int} {k : Nat} (h0 : 0 ≤ j) (h1 : j < k) (hp : p j) : cntP p j.toNat + 1 ≤ cntP p k := by
  have e := cntP_s (p := p) h0
  rw [b2i_t hp] at e
  have := cntP_mono (p := p) (a := (j + 1).toNat) (b := k) (by omega)
  omega
theorem lead_at {p : Int → Prop} {g : Int} : ∀ (n : Nat), 0 ≤ g → g < cntP p n → ∃ j : Int, (0 ≤ j ∧ j < n) ∧ p j ∧ cntP p j.toNat = g
  | 0, h0, h1 => absurd h1 (by show ¬ g < 0; omega)
  | n + 1, h0, h1 => by
    have e : cntP p (n + 1) = cntP p n + b2i (p (n : Int)) := rfl
    by_cases q : g < cntP p n
    · obtain ⟨j, j0, j1, j2⟩ := lead_at n h0 q
      exact ⟨j, by omega, j1, j2⟩
    · by_cases hp : p (n : Int)
      · rw [b2i_t hp] at e
        exact ⟨n, by omega, hp, by rw [Int.toNat_natCast]; omega⟩
      · rw [b2i_f hp] at e; omega
/-- the groups of R among n sacks, as the model keeps them -/
def GrAt (μ : Mu) (m : Nat) (R : Rl) (n : Int) : Prop := μ m 13 = cntP (Ld R) n.toNat ∧ (∀ j : Int, 0 ≤ j → j < n → Ld R j → μ (m + 10) (cntP (Ld R) j.toNat) = j) ∧ ∀ j : Int, 0 ≤ j → j < n → ∃ o : Int, (0 ≤ o ∧ o ≤ j) ∧ (R j o ∧ R o j) ∧ (∀ p : Int, 0 ≤ p → p < o → ¬ (R j p ∧ R p j)) ∧ μ (m + 11) j = cntP (Ld R) o.toNat
theorem GrAt.gr {μ : Mu} {m : Nat} {R : Rl} {n g : Int} (h : GrAt μ m R n) (hn : 0 ≤ n) (h0 : 0 ≤ g) (h1 : g < μ m 13) : (0 ≤ μ (m + 10) g ∧ μ (m + 10) g < n) ∧ Ld R (μ (m + 10) g) ∧ cntP (Ld R) (μ (m + 10) g).toNat = g := by
  rw [h.1] at h1
  obtain ⟨j, j0, j1, j2⟩ := lead_at n.toNat h0 h1
  have := h.2.1 j j0.1 (by omega) j1
  rw [j2] at this
  rw [this]
  exact ⟨by omega, j1, j2⟩
theorem GrAt.n {μ : Mu} {m : Nat} {R : Rl} {n : Int} (h : GrAt μ m R n) (hn : 0 ≤ n) : 0 ≤ μ m 13 ∧ μ m 13 ≤ n := by
  have := cntP_nn (p := Ld R) n.toNat
  rw [h.1]; omega
theorem GrAt.sum {μ : Mu} {m : Nat} {R : Rl} {n : Int} (h : GrAt μ m R n) (p : Int → Prop) : ∀ k : Nat, (k : Int) ≤ n → sumN (fun g => b2i (p (μ (m + 10) g))) (cntP (Ld R) k).toNat = cntP (fun j => Ld R j ∧ p j) k
  | 0, _ => rfl
  | k + 1, hk => by
    have e1 : cntP (Ld R) (k + 1) = cntP (Ld R) k + b2i (Ld R (k : Int)) := rfl
    have e2 : cntP (fun j => Ld R j ∧ p j) (k + 1) = cntP (fun j => Ld R j ∧ p j) k + b2i (Ld R (k : Int) ∧ p (k : Int)) := rfl
    have n0 := cntP_nn (p := Ld R) k
    rw [e1, e2, ← h.sum p k (by omega)]
    by_cases q : Ld R (k : Int)
    · rw [b2i_t q, sumN_s n0.1]
      have := h.2.1 (k : Int) (by omega) (by omega) q
      rw [Int.toNat_natCast] at this
      rw [this]
      exact congrArg _ (b2i_c ⟨fun z => ⟨q, z⟩, fun z => z.2⟩)
    · rw [b2i_f q, b2i_f (fun z => q z.1), Int.add_zero, Int.add_zero]
theorem GrAt.kp {μ μ' : Mu} {m : Nat} {R : Rl} {n : Int} (h : GrAt μ m R n) (e0 : μ' m 13 = μ m 13) (e1 : μ' (m + 10) = μ (m + 10)) (e2 : μ' (m + 11) = μ (m + 11)) : GrAt μ' m R n := by
  unfold GrAt
  rw [e0, e1, e2]; exact h
theorem gr_ld {μ : Mu} {m : Nat} {R : Rl} {s : Int} (h : GrAt μ m R s) (hs : 0 ≤ s) (hR : RT R) (hl : Ld R s) : GrAt (upd2 (upd2 (upd2 μ (m + 10) (μ m 13) s) (m + 11) s (μ m 13)) m 13 (μ m 13 + 1)) m R (s + 1) := by
  refine ⟨?_, fun j j0 j1 j2 => ?_, fun j j0 j1 => ?_⟩
  · rw [upd2_same, cntP_s hs, b2i_t hl, h.1]
  · rw [upd2_row (by omega), upd2_row (by omega), upd2_ap, h.1]
    by_cases e : j = s
    · subst e; rw [if_pos ⟨rfl, rfl⟩]
    · have := cnt_lt (k := s.toNat) j0 (by omega) j2
      rw [if_neg (by omega)]; exact h.2.1 j j0 (by omega) j2
  · rw [upd2_row (by omega), upd2_ap, upd2_row (by omega)]
    by_cases e : j = s
    · subst e; rw [if_pos ⟨rfl, rfl⟩]
      exact ⟨j, by omega, ⟨hR.1 j, hR.1 j⟩, hl, h.1⟩
    · rw [if_neg (by omega)]; exact h.2.2 j j0 (by omega)
theorem gr_no {μ : Mu} {m : Nat} {R : Rl} {s o : Int} (h : GrAt μ m R s) (hs : 0 ≤ o ∧ o < s) (hR : RT R) (ha : R s o ∧ R o s) (hp : ∀ p : Int, 0 ≤ p → p < o → ¬ (R s p ∧ R p s)) : GrAt (upd2 μ (m + 11) s (μ (m + 11) o)) m R (s + 1) := by
  have hl : ¬ Ld R s := fun q => q o hs.1 hs.2 ha
  refine ⟨?_, fun j j0 j1 j2 => ?_, fun j j0 j1 => ?_⟩
  · rw [upd2_row (by omega), cntP_s (by omega), b2i_f hl, h.1, Int.add_zero]
  · rw [upd2_row (by omega)]
    have : j ≠ s := fun q => hl (by rw [← q]; exact j2)
    exact h.2.1 j j0 (by omega) j2
  · rw [upd2_ap]
    by_cases e : j = s
    · subst e; rw [if_pos ⟨rfl, rfl⟩]
      obtain ⟨o2, o3, o4, o5, o6⟩ := h.2.2 o hs.1 hs.2
      have : o2 = o := by
        rcases Int.lt_or_le o2 o with q | q
        · exact absurd ⟨hR.2 _ _ _ ha.1 o4.1, hR.2 _ _ _ o4.2 ha.2⟩ (hp o2 o3.1 q)
        · omega
      subst this
      exact ⟨o2, by omega, ha, hp, o6⟩
    · rw [if_neg (by omega)]; exact h.2.2 j j0 (by omega)
section MGR
variable {l : Launch} {G : Glb} {S : Sh} {μ : Mu} {m : Nat} {t : BSt} {g : Int → Int} {n B : Int} {R : Rl}
set_option maxHeartbeats 4000000 in
set_option maxRecDepth 100000 in
theorem c_X8_isOpen {s u : Int} (hM : ModS S m) (hf : FolR μ m R) (hs : 0 ≤ s ∧ s < 6) (hu : 0 ≤ u ∧ u < 6) : Ct l G cX8_isOpen (yX8_isOpen, 3, (some FieldType.boolean), 0, 0, 0) [.ref m, vi s, vi u] S μ (Ri S (b2i (¬ R s u ∧ ¬ R u s)) μ) := by
  refine Ct.of (by decide) rfl (by simp [vi, Value.category]) (Nat.le_of_ble_eq_true rfl) ?_
  refine v_aload_n aX8_isOpen_0 rfl ?_
  refine v_getr aX8_isOpen_1 fX8_39 hM.p rfl rfl ?_
  refine v_bipush (by decide) aX8_isOpen_4 ?_
  refine v_iload_n aX8_isOpen_6 rfl ?_
  refine v_imul aX8_isOpen_7 ?_
  refine v_iload_n aX8_isOpen_8 rfl ?_
  refine v_iadd aX8_isOpen_9 ?_
  refine v_zald aX8_isOpen_10 hM.p_same (by omega) (by decide) ?_
  rw [hf.1 s u (by omega) (by omega) (by omega) (by omega)]
  refine v_if_ne_b 46 rfl aX8_isOpen_11 (fun c11 => ?_) (fun c11 => ?_)
  · --
    refine v_iconst aX8_isOpen_46 ?_
    refine v_zreturn aX8_isOpen_47 rfl ⟨Nat.le_refl _, Nat.le_refl _⟩ (by first | exact Or.inl rfl | exact Or.inr rfl | exact b2i_01 | omega) ?_
    exact ⟨congrArg (fun z => some (vi z)) (b2i_f (fun q => q.1 c11.1)).symm, rfl, rfl⟩
  · --
    refine v_aload_n aX8_isOpen_14 rfl ?_
    refine v_getr aX8_isOpen_15 fX8_35 hM.p rfl rfl ?_
    refine v_bipush (by decide) aX8_isOpen_18 ?_
    refine v_iload_n aX8_isOpen_20 rfl ?_
    refine v_imul aX8_isOpen_21 ?_
    refine v_iload_n aX8_isOpen_22 rfl ?_
    refine v_iadd aX8_isOpen_23 ?_
    refine v_zald aX8_isOpen_24 hM.p_over (by omega) (by decide) ?_
    rw [hf.2 s u (by omega) (by omega) (by omega) (by omega)]
    refine v_if_ne_b 46 rfl aX8_isOpen_25 (fun c25 => ?_) (fun c25 => ?_)
    · --
      refine v_iconst aX8_isOpen_46 ?_
      refine v_zreturn aX8_isOpen_47 rfl ⟨Nat.le_refl _, Nat.le_refl _⟩ (by first | exact Or.inl rfl | exact Or.inr rfl | exact b2i_01 | omega) ?_
      exact ⟨congrArg (fun z => some (vi z)) (b2i_f (fun q => q.1 c25.1)).symm, rfl, rfl⟩
    · --
      refine v_aload_n aX8_isOpen_28 rfl ?_
      refine v_getr aX8_isOpen_29 fX8_35 hM.p rfl rfl ?_
      refine v_bipush (by decide) aX8_isOpen_32 ?_
      refine v_iload_n aX8_isOpen_34 rfl ?_
      refine v_imul aX8_isOpen_35 ?_
      refine v_iload_n aX8_isOpen_36 rfl ?_
      refine v_iadd aX8_isOpen_37 ?_
      refine v_zald aX8_isOpen_38 hM.p_over (by omega) (by decide) ?_
      rw [hf.2 u s (by omega) (by omega) (by omega) (by omega)]
      refine v_if_ne_b 46 rfl aX8_isOpen_39 (fun c39 => ?_) (fun c39 => ?_)
      · --
        refine v_iconst aX8_isOpen_46 ?_
        refine v_zreturn aX8_isOpen_47 rfl ⟨Nat.le_refl _, Nat.le_refl _⟩ (by first | exact Or.inl rfl | exact Or.inr rfl | exact b2i_01 | omega) ?_
        exact ⟨congrArg (fun z => some (vi z)) (b2i_f (fun q => q.2 c39.1)).symm, rfl, rfl⟩
      · --
        refine v_iconst aX8_isOpen_42 ?_
        refine v_goto 47 rfl aX8_isOpen_43 ?_
        refine v_zreturn aX8_isOpen_47 rfl ⟨Nat.le_refl _, Nat.le_refl _⟩ (by first | exact Or.inl rfl | exact Or.inr rfl | exact b2i_01 | omega) ?_
        exact ⟨congrArg (fun z => some (vi z)) (b2i_t ⟨fun q => c25 ⟨q, fun q2 => c11 ⟨q, q2⟩⟩, fun q => c39 ⟨q, fun q2 => c11 ⟨q2, q⟩⟩⟩).symm, rfl, rfl⟩
theorem opn_m {R : Rl} {n : Int} : sumN (fun i => sumN (fun o => b2i (o < i ∧ ¬ R i o ∧ ¬ R o i)) n.toNat) n.toNat = opnN R n := by
  rw [sumN_swap]
  exact sumN_c _ (fun i _ _ => sumN_c _ (fun o _ _ => b2i_c ⟨fun q => ⟨q.1, q.2.2, q.2.1⟩, fun q => ⟨q.1, q.2.2, q.2.1⟩⟩))
set_option maxHeartbeats 4000000 in
set_option maxRecDepth 100000 in
theorem li_X8_openPairs {i C : Int} (hM : ModS S m) (hf : FolR μ m R) (hn : 0 ≤ μ m 0 ∧ μ m 0 ≤ 6) (hi : 0 ≤ i ∧ i < μ m 0) (hh : ∀ (z : Int) (L : List Value), z = C + sumN (fun o => b2i (o < i ∧ ¬ R i o ∧ ¬ R o i)) (μ m 0).toNat → V l G cX8_openPairs (yX8_openPairs, 4, (some FieldType.int), 1, 0, 0) (Ri S (opnN R (μ m 0)) μ) (0, 0) S μ 42 ([.ref m, vi z, vi i] ++ L) []) : ∀ (N : Nat) (j z : Int), (0 ≤ j ∧ j ≤ i) → i - j < N → z = C + sumN (fun o => b2i (o < i ∧ ¬ R i o ∧ ¬ R o i)) j.toNat → V l G cX8_openPairs (yX8_openPairs, 4, (some FieldType.int), 1, 0, 0) (Ri S (opnN R (μ m 0)) μ) (0, 0) S μ 14 [.ref m, vi z, vi i, vi j] [] := by
  intro N
  induction N with
  | zero => intros; omega
  | succ N ih =>
    intro j z h0 h1 hz
    refine v_iload_n aX8_openPairs_14 rfl ?_
    refine v_iload_n aX8_openPairs_15 rfl ?_
    refine v_icmp_ge 42 rfl aX8_openPairs_16 (by omega) (by omega) (fun c16 => ?_) (fun c16 => ?_)
    · --
      exact hh z [vi j] (by rw [hz, sumN_ge (a := j.toNat) (b := (μ m 0).toNat) (by omega) (fun o o0 o1 => b2i_f (fun q => by omega))])
    · --
      refine v_iload_n aX8_openPairs_19 rfl ?_
      refine v_aload_n aX8_openPairs_20 rfl ?_
      refine v_iload_n aX8_openPairs_21 rfl ?_
      refine v_iload_n aX8_openPairs_22 rfl ?_
      refine v_cVi (c_X8_isOpen hM hf (by omega) (by omega)) aX8_openPairs_23 mX8_isOpen vX8_isOpen lX8_114 hM.p rfl rfl rfl rfl rfl (Nat.le_of_ble_eq_true rfl) ⟨Nat.le_of_ble_eq_true rfl, Nat.le_of_ble_eq_true rfl⟩ (Nat.le_of_ble_eq_true rfl) ?_
      refine v_if_eq_b 33 rfl aX8_openPairs_26 (fun c26 => ?_) (fun c26 => ?_)
      · --
        refine v_iconst aX8_openPairs_33 ?_
        refine v_iadd aX8_openPairs_34 ?_
        refine v_istore_n aX8_openPairs_35 (by decide) rfl ?_
        refine v_iinc aX8_openPairs_36 rfl (by decide) rfl ?_
        refine v_goto 14 rfl aX8_openPairs_39 ?_
        refine ih (j + 1) _ (by omega) (by omega) ?_
        rw [sumN_s (by omega), hz, b2i_f (fun q => c26 q.2)]
        first | omega | rfl
      · --
        refine v_iconst aX8_openPairs_29 ?_
        refine v_goto 34 rfl aX8_openPairs_30 ?_
        refine v_iadd aX8_openPairs_34 ?_
        refine v_istore_n aX8_openPairs_35 (by decide) rfl ?_
        refine v_iinc aX8_openPairs_36 rfl (by decide) rfl ?_
        refine v_goto 14 rfl aX8_openPairs_39 ?_
        refine ih (j + 1) _ (by omega) (by omega) ?_
        rw [sumN_s (by omega), hz, b2i_t ⟨by omega, c26⟩]
        first | omega | rfl
set_option maxHeartbeats 4000000 in
set_option maxRecDepth 100000 in
theorem lo_X8_openPairs (hM : ModS S m) (hf : FolR μ m R) (hn : 0 ≤ μ m 0 ∧ μ m 0 ≤ 6) : ∀ (N : Nat) (i z : Int) (L : List Value), (0 ≤ i ∧ i ≤ μ m 0) → μ m 0 - i < N → z = sumN (fun i => sumN (fun o => b2i (o < i ∧ ¬ R i o ∧ ¬ R o i)) (μ m 0).toNat) i.toNat → V l G cX8_openPairs (yX8_openPairs, 4, (some FieldType.int), 1, 0, 0) (Ri S (opnN R (μ m 0)) μ) (0, 0) S μ 4 ([.ref m, vi z, vi i] ++ L) [] := by
  intro N
  induction N with
  | zero => intros; omega
  | succ N ih =>
    intro i z L h0 h1 hz
    refine v_take 3 rfl ?_
    show V _ _ _ _ _ _ _ _ _ [.ref m, vi z, vi i] _
    refine v_iload_n aX8_openPairs_4 rfl ?_
    refine v_aload_n aX8_openPairs_5 rfl ?_
    refine v_gi 0 rfl aX8_openPairs_6 fX8_7 hM.p rfl rfl ?_
    refine v_icmp_ge 48 rfl aX8_openPairs_9 (by omega) (by omega) (fun c9 => ?_) (fun c9 => ?_)
    · --
      refine v_iload_n aX8_openPairs_48 rfl ?_
      refine v_ireturn aX8_openPairs_49 rfl ⟨Nat.le_refl _, Nat.le_refl _⟩ ?_
      obtain rfl : i = μ m 0 := by omega
      exact ⟨by rw [hz, opn_m], rfl, rfl⟩
    · --
      refine v_iconst aX8_openPairs_12 ?_
      refine v_istore_n aX8_openPairs_13 (by decide) rfl ?_
      refine li_X8_openPairs (i := i) (C := z) hM hf hn (by omega) (fun z2 L2 hz2 => ?_) 7 0 z (by omega) (by omega) ?_
      · refine v_take 3 rfl ?_
        show V _ _ _ _ _ _ _ _ _ [.ref m, vi z2, vi i] _
        refine v_iinc aX8_openPairs_42 rfl (by decide) rfl ?_
        refine v_goto 4 rfl aX8_openPairs_45 ?_
        refine ih (i + 1) z2 [] (by omega) (by omega) ?_
        rw [sumN_s h0.1, hz2, hz]
      · exact (Int.add_zero z).symm
set_option maxHeartbeats 4000000 in
set_option maxRecDepth 100000 in
theorem c_X8_openPairs (hM : ModS S m) (hf : FolR μ m R) (hn : 0 ≤ μ m 0 ∧ μ m 0 ≤ 6) : Ct l G cX8_openPairs (yX8_openPairs, 4, (some FieldType.int), 1, 0, 0) [.ref m] S μ (Ri S (opnN R (μ m 0)) μ) := by
  refine Ct.of (by decide) rfl (by simp [vi, Value.category]) (Nat.le_of_ble_eq_true rfl) ?_
  refine v_iconst aX8_openPairs_0 ?_
  refine v_istore_n aX8_openPairs_1 (by decide) rfl ?_
  refine v_iconst aX8_openPairs_2 ?_
  refine v_istore_n aX8_openPairs_3 (by decide) rfl ?_
  exact lo_X8_openPairs hM hf hn 7 0 0 [] (by omega) (by omega) rfl
set_option maxHeartbeats 4000000 in
set_option maxRecDepth 100000 in
theorem li_X8_layGroups {μ : Mu} {s : Int} {P : Pst} (hM : ModS S m) (hf : FolR μ m R) (hR : RT R) (hs : 0 ≤ s ∧ s < 6) (hh : ∀ (o u : Int), (0 ≤ o ∧ o ≤ s) → (R s o ∧ R o s) → (∀ p : Int, 0 ≤ p → p < o → ¬ (R s p ∧ R p s)) → V l G cX8_layGroups (yX8_layGroups, 4, none, 0, 0, 0) P (0, 0) S μ 51 [.ref m, vi s, vi o, vi u] []) : ∀ (N : Nat) (o u : Int), (-1 ≤ u ∧ u < o ∧ o ≤ s) → u + 1 < N → (R s o ∧ R o s) → (∀ p : Int, u < p → p < o → ¬ (R s p ∧ R p s)) → V l G cX8_layGroups (yX8_layGroups, 4, none, 0, 0, 0) P (0, 0) S μ 21 [.ref m, vi s, vi o, vi u] [] := by
  intro N
  induction N with
  | zero => intros; omega
  | succ N ih =>
    intro o u h0 h1 ha hp
    refine v_iload_n aX8_layGroups_21 rfl ?_
    refine v_if_lt 51 rfl aX8_layGroups_22 (by omega) (fun c22 => ?_) (fun c22 => ?_)
    · --
      exact hh o u (by omega) ha (fun p p0 p1 => hp p (by omega) p1)
    · --
      refine v_aload_n aX8_layGroups_25 rfl ?_
      refine v_getr aX8_layGroups_26 fX8_39 hM.p rfl rfl ?_
      refine v_bipush (by decide) aX8_layGroups_29 ?_
      refine v_iload_n aX8_layGroups_31 rfl ?_
      refine v_imul aX8_layGroups_32 ?_
      refine v_iload_n aX8_layGroups_33 rfl ?_
      refine v_iadd aX8_layGroups_34 ?_
      refine v_zald aX8_layGroups_35 hM.p_same (by omega) (by decide) ?_
      rw [hf.1 s u (by omega) (by omega) (by omega) (by omega)]
      refine v_if_eq_b 43 rfl aX8_layGroups_36 (fun c36 => ?_) (fun c36 => ?_)
      · --
        refine v_iload_n aX8_layGroups_43 rfl ?_
        refine v_istore_n aX8_layGroups_44 (by decide) rfl ?_
        refine v_iinc aX8_layGroups_45 rfl (by decide) rfl ?_
        refine v_goto 21 rfl aX8_layGroups_48 ?_
        refine ih o (u + -1) (by omega) (by omega) ha (fun p p0 p1 => ?_)
        by_cases e : p = u
        · rw [e]; exact c36
        · exact hp p (by omega) p1
      · --
        refine v_iload_n aX8_layGroups_39 rfl ?_
        refine v_goto 44 rfl aX8_layGroups_40 ?_
        refine v_istore_n aX8_layGroups_44 (by decide) rfl ?_
        refine v_iinc aX8_layGroups_45 rfl (by decide) rfl ?_
        refine v_goto 21 rfl aX8_layGroups_48 ?_
        refine ih u (u + -1) (by omega) (by omega) c36 (fun p p0 p1 => by omega)
set_option maxHeartbeats 4000000 in
set_option maxRecDepth 100000 in
theorem lo_X8_layGroups {μ0 : Mu} (hM : ModS S m) (hf : FolR μ0 m R) (hR : RT R) (hn : 0 ≤ μ0 m 0 ∧ μ0 m 0 ≤ 6) : ∀ (N : Nat) (s : Int) (μ : Mu) (L : List Value), (0 ≤ s ∧ s ≤ μ0 m 0) → μ0 m 0 - s < N → GrAt μ m R s → ((∀ i : Int, i ≠ 13 → μ m i = μ0 m i) ∧ ∀ q : Nat, q ≠ m → q ≠ m + 10 → q ≠ m + 11 → μ q = μ0 q) → V l G cX8_layGroups (yX8_layGroups, 4, none, 0, 0, 0) (Rw S (fun μ' => GrAt μ' m R (μ0 m 0) ∧ (∀ i : Int, i ≠ 13 → μ' m i = μ0 m i) ∧ ∀ q : Nat, q ≠ m → q ≠ m + 10 → q ≠ m + 11 → μ' q = μ0 q)) (0, 0) S μ 7 ([.ref m, vi s] ++ L) [] := by
  intro N
  induction N with
  | zero => intros; omega
  | succ N ih =>
    intro s μ L h0 h1 hg hk
    have hn0 : μ m 0 = μ0 m 0 := hk.1 0 (by decide)
    have hgn := hg.n h0.1
    have hf' : FolR μ m R := by unfold FolR; rw [hk.2 _ (by omega) (by omega) (by omega), hk.2 _ (by omega) (by omega) (by omega)]; exact hf
    refine v_take 2 rfl ?_
    show V _ _ _ _ _ _ _ _ _ [.ref m, vi s] _
    refine v_iload_n aX8_layGroups_7 rfl ?_
    refine v_aload_n aX8_layGroups_8 rfl ?_
    refine v_gi 0 rfl aX8_layGroups_9 fX8_7 hM.p rfl rfl ?_
    refine v_icmp_ge 107 rfl aX8_layGroups_12 (by omega) (by omega) (fun c12 => ?_) (fun c12 => ?_)
    · --
      refine v_return aX8_layGroups_107 rfl ⟨Nat.le_refl _, Nat.le_refl _⟩ ?_
      obtain rfl : s = μ0 m 0 := by omega
      exact ⟨rfl, rfl, hg, hk⟩
    · --
      refine v_iload_n aX8_layGroups_15 rfl ?_
      refine v_istore_n aX8_layGroups_16 (by decide) rfl ?_
      refine v_iload_n aX8_layGroups_17 rfl ?_
      refine v_iconst aX8_layGroups_18 ?_
      refine v_isub aX8_layGroups_19 ?_
      refine v_istore_n aX8_layGroups_20 (by decide) rfl ?_
      refine li_X8_layGroups hM hf' hR (by omega) (fun o u o0 o1 o2 => ?_) 7 s (s - 1) (by omega) (by omega) ⟨hR.1 s, hR.1 s⟩ (fun p p0 p1 => by omega)
      refine v_iload_n aX8_layGroups_51 rfl ?_
      refine v_iload_n aX8_layGroups_52 rfl ?_
      refine v_icmp_ne 89 rfl aX8_layGroups_53 (by omega) (by omega) (fun c53 => ?_) (fun c53 => ?_)
      · --
        refine v_aload_n aX8_layGroups_89 rfl ?_
        refine v_getr aX8_layGroups_90 fX8_45 hM.p rfl rfl ?_
        refine v_iload_n aX8_layGroups_93 rfl ?_
        refine v_aload_n aX8_layGroups_94 rfl ?_
        refine v_getr aX8_layGroups_95 fX8_45 hM.p rfl rfl ?_
        refine v_iload_n aX8_layGroups_98 rfl ?_
        refine v_iald aX8_layGroups_99 hM.p_groupOf (by omega) (by decide) ?_
        refine v_iast aX8_layGroups_100 hM.p_groupOf (by omega) (by decide) ?_
        refine v_iinc aX8_layGroups_101 rfl (by decide) rfl ?_
        refine v_goto 7 rfl aX8_layGroups_104 ?_
        refine ih (s + 1) _ [vi o, vi u] (by omega) (by omega) (gr_no hg (by omega) hR o1 o2) ⟨fun i hi => ?_, fun q q0 q1 q2 => ?_⟩
        · rw [upd2_row (by omega)]; exact hk.1 i hi
        · rw [upd2_row (by omega)]; exact hk.2 q q0 q1 q2
      · --
        refine v_aload_n aX8_layGroups_56 rfl ?_
        refine v_getr aX8_layGroups_57 fX8_42 hM.p rfl rfl ?_
        refine v_aload_n aX8_layGroups_60 rfl ?_
        refine v_gi 13 rfl aX8_layGroups_61 fX8_118 hM.p rfl rfl ?_
        refine v_iload_n aX8_layGroups_64 rfl ?_
        refine v_iast aX8_layGroups_65 hM.p_group (by omega) (by decide) ?_
        refine v_aload_n aX8_layGroups_66 rfl ?_
        refine v_getr aX8_layGroups_67 fX8_45 hM.p rfl rfl ?_
        refine v_iload_n aX8_layGroups_70 rfl ?_
        refine v_aload_n aX8_layGroups_71 rfl ?_
        refine v_gi 13 rfl aX8_layGroups_72 fX8_118 hM.p rfl rfl ?_
        rw [upd2_row (show m ≠ m + 10 by omega)]
        refine v_iast aX8_layGroups_75 hM.p_groupOf (by omega) (by decide) ?_
        refine v_aload_n aX8_layGroups_76 rfl ?_
        refine v_dup rfl aX8_layGroups_77 ?_
        refine v_gi 13 rfl aX8_layGroups_78 fX8_118 hM.p rfl rfl ?_
        rw [upd2_row (show m ≠ m + 11 by omega), upd2_row (show m ≠ m + 10 by omega)]
        refine v_iconst aX8_layGroups_81 ?_
        refine v_iadd aX8_layGroups_82 ?_
        refine v_pi 13 rfl aX8_layGroups_83 fX8_118 nf8_13 ok8_13 hM.p rfl rfl ?_
        refine v_goto 101 rfl aX8_layGroups_86 ?_
        refine v_iinc aX8_layGroups_101 rfl (by decide) rfl ?_
        refine v_goto 7 rfl aX8_layGroups_104 ?_
        obtain rfl : o = s := by omega
        refine ih (o + 1) _ [vi o, vi u] (by omega) (by omega) (gr_ld hg h0.1 hR (fun p p0 p1 => o2 p p0 p1)) ⟨fun i hi => ?_, fun q q0 q1 q2 => ?_⟩
        · rw [upd2_ap, if_neg (by omega), upd2_row (by omega), upd2_row (by omega)]; exact hk.1 i hi
        · rw [upd2_row (by omega), upd2_row (by omega), upd2_row (by omega)]; exact hk.2 q q0 q1 q2
set_option maxHeartbeats 4000000 in
set_option maxRecDepth 100000 in
theorem c_X8_layGroups {μ0 : Mu} (hM : ModS S m) (hf : FolR μ0 m R) (hR : RT R) (hn : 0 ≤ μ0 m 0 ∧ μ0 m 0 ≤ 6) : Ct l G cX8_layGroups (yX8_layGroups, 4, none, 0, 0, 0) [.ref m] S μ0 (Rw S (fun μ' => GrAt μ' m R (μ0 m 0) ∧ (∀ i : Int, i ≠ 13 → μ' m i = μ0 m i) ∧ ∀ q : Nat, q ≠ m → q ≠ m + 10 → q ≠ m + 11 → μ' q = μ0 q)) := by
  refine Ct.of (by decide) rfl (by simp [vi, Value.category]) (Nat.le_of_ble_eq_true rfl) ?_
  refine v_aload_n aX8_layGroups_0 rfl ?_
  refine v_iconst aX8_layGroups_1 ?_
  refine v_pi 13 rfl aX8_layGroups_2 fX8_118 nf8_13 ok8_13 hM.p rfl rfl ?_
  refine v_iconst aX8_layGroups_5 ?_
  refine v_istore_n aX8_layGroups_6 (by decide) rfl ?_
  exact lo_X8_layGroups hM hf hR hn 7 0 _ [] (by omega) (by omega) ⟨upd2_same, fun j j0 j1 => by omega, fun j j0 j1 => by omega⟩ ⟨fun i hi => by rw [upd2_ap, if_neg (by omega)], fun q q0 q1 q2 => upd2_row q0⟩
set_option maxHeartbeats 4000000 in
set_option maxRecDepth 100000 in
theorem li_X8_rankOf {s e : Int} (hM : ModS S m) (hf : FolR μ m R) (hg : GrAt μ m R n) (hn : 0 ≤ n ∧ n ≤ 6) (hs : 0 ≤ s ∧ s < n) (he : 0 ≤ e ∧ e ≤ 1) : ∀ (N : Nat) (i a b : Int), (0 ≤ i ∧ i ≤ μ m 13) → μ m 13 - i < N → a = sumN (fun g => b2i (R (μ (m + 10) g) s ∧ ¬ R s (μ (m + 10) g))) i.toNat → b = sumN (fun g => b2i (R s (μ (m + 10) g) ∧ ¬ R (μ (m + 10) g) s)) i.toNat → V l G cX8_rankOf (yX8_rankOf, 6, (some FieldType.int), 0, 0, 0) (Ri S (rkN R n s e) μ) (0, 0) S μ 8 [.ref m, vi s, vi e, vi a, vi b, vi i] [] := by
  intro N
  induction N with
  | zero => intros; omega
  | succ N ih =>
    intro i a b h0 h1 ha hb
    have hgn := hg.n hn.1
    have hgr := fun q => hg.gr (g := i) hn.1 h0.1 q
    refine v_iload aX8_rankOf_8 rfl ?_
    refine v_aload_n aX8_rankOf_10 rfl ?_
    refine v_gi 13 rfl aX8_rankOf_11 fX8_118 hM.p rfl rfl ?_
    refine v_icmp_ge 81 rfl aX8_rankOf_14 (by omega) (by omega) (fun c14 => ?_) (fun c14 => ?_)
    · --
      refine v_iload_n aX8_rankOf_81 rfl ?_
      refine v_if_ne 89 rfl aX8_rankOf_82 (by omega) (fun c82 => ?_) (fun c82 => ?_)
      · --
        refine v_aload_n aX8_rankOf_89 rfl ?_
        refine v_gi 13 rfl aX8_rankOf_90 fX8_118 hM.p rfl rfl ?_
        refine v_iconst aX8_rankOf_93 ?_
        refine v_isub aX8_rankOf_94 ?_
        refine v_iload aX8_rankOf_95 rfl ?_
        refine v_isub aX8_rankOf_97 ?_
        refine v_ireturn aX8_rankOf_98 rfl ⟨Nat.le_refl _, Nat.le_refl _⟩ ?_
        obtain rfl : i = μ m 13 := by omega
        refine ⟨?_, rfl, rfl⟩
        rw [hb, hg.1, hg.sum (fun j => R s j ∧ ¬ R j s) n.toNat (by omega)]
        refine congrArg (fun z => some (vi z)) ?_
        unfold rkN
        rw [if_neg c82]
        omega
      · --
        refine v_iload_n aX8_rankOf_85 rfl ?_
        refine v_goto 98 rfl aX8_rankOf_86 ?_
        refine v_ireturn aX8_rankOf_98 rfl ⟨Nat.le_refl _, Nat.le_refl _⟩ ?_
        obtain rfl : i = μ m 13 := by omega
        refine ⟨?_, rfl, rfl⟩
        rw [ha, hg.1, hg.sum (fun j => R j s ∧ ¬ R s j) n.toNat (by omega)]
        exact congrArg (fun z => some (vi z)) (if_pos c82).symm
    · --
      have hgr := (hgr (by omega)).1
      refine v_iload_n aX8_rankOf_17 rfl ?_
      refine v_aload_n aX8_rankOf_18 rfl ?_
      refine v_getr aX8_rankOf_19 fX8_35 hM.p rfl rfl ?_
      refine v_bipush (by decide) aX8_rankOf_22 ?_
      refine v_aload_n aX8_rankOf_24 rfl ?_
      refine v_getr aX8_rankOf_25 fX8_42 hM.p rfl rfl ?_
      refine v_iload aX8_rankOf_28 rfl ?_
      refine v_iald aX8_rankOf_30 hM.p_group (by omega) (by decide) ?_
      refine v_imul aX8_rankOf_31 ?_
      refine v_iload_n aX8_rankOf_32 rfl ?_
      refine v_iadd aX8_rankOf_33 ?_
      refine v_zald aX8_rankOf_34 hM.p_over (by omega) (by decide) ?_
      rw [hf.2 (μ (m + 10) i) s (by omega) (by omega) (by omega) (by omega)]
      refine v_if_eq_b 42 rfl aX8_rankOf_35 (fun c35 => ?_) (fun c35 => ?_)
      · --
        refine v_iconst aX8_rankOf_42 ?_
        refine v_iadd aX8_rankOf_43 ?_
        refine v_istore_n aX8_rankOf_44 (by decide) rfl ?_
        refine v_iload aX8_rankOf_45 rfl ?_
        refine v_aload_n aX8_rankOf_47 rfl ?_
        refine v_getr aX8_rankOf_48 fX8_35 hM.p rfl rfl ?_
        refine v_bipush (by decide) aX8_rankOf_51 ?_
        refine v_iload_n aX8_rankOf_53 rfl ?_
        refine v_imul aX8_rankOf_54 ?_
        refine v_aload_n aX8_rankOf_55 rfl ?_
        refine v_getr aX8_rankOf_56 fX8_42 hM.p rfl rfl ?_
        refine v_iload aX8_rankOf_59 rfl ?_
        refine v_iald aX8_rankOf_61 hM.p_group (by omega) (by decide) ?_
        refine v_iadd aX8_rankOf_62 ?_
        refine v_zald aX8_rankOf_63 hM.p_over (by omega) (by decide) ?_
        rw [hf.2 s (μ (m + 10) i) (by omega) (by omega) (by omega) (by omega)]
        refine v_if_eq_b 71 rfl aX8_rankOf_64 (fun c64 => ?_) (fun c64 => ?_)
        · --
          refine v_iconst aX8_rankOf_71 ?_
          refine v_iadd aX8_rankOf_72 ?_
          refine v_istore aX8_rankOf_73 (by decide) rfl ?_
          refine v_iinc aX8_rankOf_75 rfl (by decide) rfl ?_
          refine v_goto 8 rfl aX8_rankOf_78 ?_
          first
            | (refine ih (i + 1) _ _ (by omega) (by omega) ?_ ?_
               · rw [sumN_s h0.1, ha, b2i_f c35]
               · rw [sumN_s h0.1, hb, b2i_f c64])
            | (refine ih (i + 1) _ _ (by omega) (by omega) ?_ ?_
               · rw [sumN_s h0.1, ha, b2i_t c35]
               · rw [sumN_s h0.1, hb, b2i_f c64])
        · --
          refine v_iconst aX8_rankOf_67 ?_
          refine v_goto 72 rfl aX8_rankOf_68 ?_
          refine v_iadd aX8_rankOf_72 ?_
          refine v_istore aX8_rankOf_73 (by decide) rfl ?_
          refine v_iinc aX8_rankOf_75 rfl (by decide) rfl ?_
          refine v_goto 8 rfl aX8_rankOf_78 ?_
          first
            | (refine ih (i + 1) _ _ (by omega) (by omega) ?_ ?_
               · rw [sumN_s h0.1, ha, b2i_f c35]
               · rw [sumN_s h0.1, hb, b2i_t c64])
            | (refine ih (i + 1) _ _ (by omega) (by omega) ?_ ?_
               · rw [sumN_s h0.1, ha, b2i_t c35]
               · rw [sumN_s h0.1, hb, b2i_t c64])
      · --
        refine v_iconst aX8_rankOf_38 ?_
        refine v_goto 43 rfl aX8_rankOf_39 ?_
        refine v_iadd aX8_rankOf_43 ?_
        refine v_istore_n aX8_rankOf_44 (by decide) rfl ?_
        refine v_iload aX8_rankOf_45 rfl ?_
        refine v_aload_n aX8_rankOf_47 rfl ?_
        refine v_getr aX8_rankOf_48 fX8_35 hM.p rfl rfl ?_
        refine v_bipush (by decide) aX8_rankOf_51 ?_
        refine v_iload_n aX8_rankOf_53 rfl ?_
        refine v_imul aX8_rankOf_54 ?_
        refine v_aload_n aX8_rankOf_55 rfl ?_
        refine v_getr aX8_rankOf_56 fX8_42 hM.p rfl rfl ?_
        refine v_iload aX8_rankOf_59 rfl ?_
        refine v_iald aX8_rankOf_61 hM.p_group (by omega) (by decide) ?_
        refine v_iadd aX8_rankOf_62 ?_
        refine v_zald aX8_rankOf_63 hM.p_over (by omega) (by decide) ?_
        rw [hf.2 s (μ (m + 10) i) (by omega) (by omega) (by omega) (by omega)]
        refine v_if_eq_b 71 rfl aX8_rankOf_64 (fun c64 => ?_) (fun c64 => ?_)
        · --
          refine v_iconst aX8_rankOf_71 ?_
          refine v_iadd aX8_rankOf_72 ?_
          refine v_istore aX8_rankOf_73 (by decide) rfl ?_
          refine v_iinc aX8_rankOf_75 rfl (by decide) rfl ?_
          refine v_goto 8 rfl aX8_rankOf_78 ?_
          first
            | (refine ih (i + 1) _ _ (by omega) (by omega) ?_ ?_
               · rw [sumN_s h0.1, ha, b2i_f c35]
               · rw [sumN_s h0.1, hb, b2i_f c64])
            | (refine ih (i + 1) _ _ (by omega) (by omega) ?_ ?_
               · rw [sumN_s h0.1, ha, b2i_t c35]
               · rw [sumN_s h0.1, hb, b2i_f c64])
        · --
          refine v_iconst aX8_rankOf_67 ?_
          refine v_goto 72 rfl aX8_rankOf_68 ?_
          refine v_iadd aX8_rankOf_72 ?_
          refine v_istore aX8_rankOf_73 (by decide) rfl ?_
          refine v_iinc aX8_rankOf_75 rfl (by decide) rfl ?_
          refine v_goto 8 rfl aX8_rankOf_78 ?_
          first
            | (refine ih (i + 1) _ _ (by omega) (by omega) ?_ ?_
               · rw [sumN_s h0.1, ha, b2i_f c35]
               · rw [sumN_s h0.1, hb, b2i_t c64])
            | (refine ih (i + 1) _ _ (by omega) (by omega) ?_ ?_
               · rw [sumN_s h0.1, ha, b2i_t c35]
               · rw [sumN_s h0.1, hb, b2i_t c64])
set_option maxHeartbeats 4000000 in
set_option maxRecDepth 100000 in
theorem c_X8_rankOf {s e : Int} (hM : ModS S m) (hf : FolR μ m R) (hg : GrAt μ m R n) (hn : 0 ≤ n ∧ n ≤ 6) (hs : 0 ≤ s ∧ s < n) (he : 0 ≤ e ∧ e ≤ 1) : Ct l G cX8_rankOf (yX8_rankOf, 6, (some FieldType.int), 0, 0, 0) [.ref m, vi s, vi e] S μ (Ri S (rkN R n s e) μ) := by
  have hgn := hg.n hn.1
  refine Ct.of (by decide) rfl (by simp [vi, Value.category]) (Nat.le_of_ble_eq_true rfl) ?_
  refine v_iconst aX8_rankOf_0 ?_
  refine v_istore_n aX8_rankOf_1 (by decide) rfl ?_
  refine v_iconst aX8_rankOf_2 ?_
  refine v_istore aX8_rankOf_3 (by decide) rfl ?_
  refine v_iconst aX8_rankOf_5 ?_
  refine v_istore aX8_rankOf_6 (by decide) rfl ?_
  exact li_X8_rankOf hM hf hg hn hs he 7 0 0 0 (by omega) (by omega) rfl rfl
end MGR
