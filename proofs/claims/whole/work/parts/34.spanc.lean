/-! spans: the class -/
theorem stf_fst : ∀ (es : List Edg) (Y : Spn × Int), (es.foldl stf Y).1 = rd es Y.1
  | [], _ => rfl
  | e :: es, Y => stf_fst es (stf Y e)
theorem bnd_rd : ∀ (es : List Edg) (m : Int) (X : Spn), Bnd m X → InE es → Bnd (m + es.length) (rd es X)
  | [], m, X, h, _ => by rw [show m + (([] : List Edg).length : Int) = m from Int.add_zero m]; exact h
  | e :: es, m, X, h, hin => by
    have := bnd_rd es (m + 1) (stp X e) (bnd_stp h (hin e (List.mem_cons_self ..))) (fun e' h' => hin e' (List.mem_cons_of_mem _ h'))
    rw [show m + ((e :: es).length : Int) = m + 1 + (es.length : Int) by rw [List.length_cons]; omega]
    exact this
theorem Bnd.mono {m m' : Int} {X : Spn} (h : Bnd m X) (e : m ≤ m') : Bnd m' X := fun v v0 v1 => by have := h v v0 v1; omega
theorem Bnd.eq {m : Int} {X Y : Spn} (h : Bnd m X) (e : Eq6p Y X) : Bnd m Y := fun v v0 v1 => by rw [e.1 v v0 v1, e.2 v v0 v1]; exact h v v0 v1
theorem len_edgS {a b c d e f : Int} : (edgS a b c d e f).length ≤ 2 := by
  unfold edgS
  rw [List.length_append]
  have h1 : (if c = 2 then ([] : List Edg) else [(a, b, (if c = 0 then 0 else 1) - f * e)]).length ≤ 1 := by by_cases q : c = 2 <;> simp [q]
  have h2 : (if c = 1 then ([] : List Edg) else [(b, a, (if c = 0 then 0 else 1) - f * d)]).length ≤ 1 := by by_cases q : c = 1 <;> simp [q]
  omega
theorem len_edsS {t : BSt} : ∀ k : Nat, (edsS t k).length ≤ 2 * k
  | 0 => Nat.le_refl _
  | k + 1 => by
    have := len_edsS (t := t) k
    have h2 := len_edgS (a := t.2.2.2.1 (5 * (k : Int))) (b := t.2.2.2.1 (5 * (k : Int) + 1)) (c := t.2.2.2.1 (5 * (k : Int) + 2)) (d := t.2.2.2.1 (5 * (k : Int) + 3)) (e := t.2.2.2.1 (5 * (k : Int) + 4)) (f := t.2.2.1)
    show (edsS t k ++ _).length ≤ _
    rw [List.length_append]
    omega
def Tr (μ : Mu) (b : Nat) : Spn × Int := ((μ (b + 1), μ (b + 2)), μ b 2)
theorem spX_bnd {t : BSt} {B : Int} (hok : StOk t B) (hB : B ≤ 100000) : ∀ r : Nat, Bnd (24 * r) (spX t r)
  | 0 => fun v v0 v1 => by
    have := (hok.2.2.2.2 v v0 v1).2.1
    show (0 ≤ t.2.2.2.2.2.1 v ∧ t.2.2.2.2.2.1 v ≤ 999 + 24 * ((0 : Nat) : Int)) ∧ -(24 * ((0 : Nat) : Int)) ≤ t.2.2.2.2.2.2.1 v ∧ t.2.2.2.2.2.2.1 v ≤ 999
    omega
  | r + 1 => by
    have h := bnd_rd (edsS t t.2.1.toNat) _ _ (spX_bnd hok hB r) (edsS_in hok hB _ (by have := hok.2.1; omega))
    have h2 := len_edsS (t := t) t.2.1.toNat
    have := hok.2.1
    have h3 : (24 * (r : Int) + ((edsS t t.2.1.toNat).length : Int)) ≤ 24 * ((r + 1 : Nat) : Int) := by omega
    exact h.mono h3
section SPC
variable {l : Launch} {G : Glb} {S : Sh} {μ : Mu} {b k : Nat} {t : BSt} {B : Int}
set_option maxHeartbeats 4000000 in
set_option maxRecDepth 100000 in
theorem l2_X5_keepAbove {h lt w : Int} {P : Pst} (hP : SpnS S b) (hh : 0 ≤ h ∧ h < 6) (hl : 0 ≤ lt ∧ lt < 6) (hw : w ≤ 1 ∧ -4000000 ≤ w) (hx : ∀ v : Int, 0 ≤ v → v < 6 → -100000 ≤ μ (b + 2) v ∧ μ (b + 2) v ≤ 100000) (hp : ∀ μ' : Mu, μ' (b + 1) = μ (b + 1) → μ' (b + 2) = kaH (μ (b + 2)) h lt w → μ' b 2 = (if μ (b + 2) h - w < μ (b + 2) lt then 1 else μ b 2) → (∀ q : Nat, q ≠ b → q ≠ b + 1 → q ≠ b + 2 → μ' q = μ q) → P none S μ') : V l G cX5_keepAbove (yX5_keepAbove, 4, none, 0, 0, 0) P (0, 0) S μ 36 [.ref b, vi h, vi lt, vi w] [] := by
  have h1 := hx h hh.1 hh.2
  have h2 := hx lt hl.1 hl.2
  refine v_aload_n aX5_keepAbove_36 rfl ?_
  refine v_getr aX5_keepAbove_37 fX5_15 hP.p rfl rfl ?_
  refine v_iload_n aX5_keepAbove_40 rfl ?_
  refine v_iald aX5_keepAbove_41 hP.p_high (by omega) (by decide) ?_
  refine v_aload_n aX5_keepAbove_42 rfl ?_
  refine v_getr aX5_keepAbove_43 fX5_15 hP.p rfl rfl ?_
  refine v_iload_n aX5_keepAbove_46 rfl ?_
  refine v_iald aX5_keepAbove_47 hP.p_high (by omega) (by decide) ?_
  refine v_iload_n aX5_keepAbove_48 rfl ?_
  refine v_isub aX5_keepAbove_49 ?_
  refine v_icmp_le 72 rfl aX5_keepAbove_50 (by omega) (by omega) (fun c50 => ?_) (fun c50 => ?_)
  · --
    refine v_return aX5_keepAbove_72 rfl ⟨Nat.le_refl _, Nat.le_refl _⟩ ?_
    refine hp _ rfl ?_ ?_ (fun q q0 q1 q2 => rfl)
    · unfold kaH; rw [if_neg (by omega)]
    · rw [if_neg (by omega)]
  · --
    refine v_aload_n aX5_keepAbove_53 rfl ?_
    refine v_getr aX5_keepAbove_54 fX5_15 hP.p rfl rfl ?_
    refine v_iload_n aX5_keepAbove_57 rfl ?_
    refine v_aload_n aX5_keepAbove_58 rfl ?_
    refine v_getr aX5_keepAbove_59 fX5_15 hP.p rfl rfl ?_
    refine v_iload_n aX5_keepAbove_62 rfl ?_
    refine v_iald aX5_keepAbove_63 hP.p_high (by omega) (by decide) ?_
    refine v_iload_n aX5_keepAbove_64 rfl ?_
    refine v_isub aX5_keepAbove_65 ?_
    refine v_iast aX5_keepAbove_66 hP.p_high (by omega) (by decide) ?_
    refine v_aload_n aX5_keepAbove_67 rfl ?_
    refine v_iconst aX5_keepAbove_68 ?_
    refine v_pi 2 rfl aX5_keepAbove_69 fX5_32 nf5_2 (ok5_2 (by first | exact Or.inl rfl | exact Or.inr rfl | exact b2i_01 | omega)) hP.p rfl rfl ?_
    refine v_return aX5_keepAbove_72 rfl ⟨Nat.le_refl _, Nat.le_refl _⟩ ?_
    refine hp _ ?_ ?_ ?_ (fun q q0 q1 q2 => ?_)
    · rw [upd2_row (by omega), upd2_row (by omega)]
    · unfold kaH; rw [if_pos (by omega), upd2_row (by omega), upd2_iup, row_same]
    · rw [if_pos (by omega), upd2_same]
    · rw [upd2_row q0, upd2_row q2]
set_option maxHeartbeats 4000000 in
set_option maxRecDepth 100000 in
theorem c_X5_keepAbove {h lt w : Int} (hP : SpnS S b) (hh : 0 ≤ h ∧ h < 6) (hl : 0 ≤ lt ∧ lt < 6) (hw : w ≤ 1 ∧ -4000000 ≤ w) (hx : ∀ v : Int, 0 ≤ v → v < 6 → (-100000 ≤ μ (b + 1) v ∧ μ (b + 1) v ≤ 100000) ∧ (-100000 ≤ μ (b + 2) v ∧ μ (b + 2) v ≤ 100000)) : Ct l G cX5_keepAbove (yX5_keepAbove, 4, none, 0, 0, 0) [.ref b, vi h, vi lt, vi w] S μ (Rw S (fun μ' => Tr μ' b = stf (Tr μ b) (h, lt, w) ∧ (∀ q : Nat, q ≠ b → q ≠ b + 1 → q ≠ b + 2 → μ' q = μ q))) := by
  have h1 := hx h hh.1 hh.2
  have h2 := hx lt hl.1 hl.2
  refine Ct.of (by decide) rfl (by simp [vi, Value.category]) (Nat.le_of_ble_eq_true rfl) ?_
  refine v_aload_n aX5_keepAbove_0 rfl ?_
  refine v_getr aX5_keepAbove_1 fX5_9 hP.p rfl rfl ?_
  refine v_iload_n aX5_keepAbove_4 rfl ?_
  refine v_iald aX5_keepAbove_5 hP.p_low (by omega) (by decide) ?_
  refine v_aload_n aX5_keepAbove_6 rfl ?_
  refine v_getr aX5_keepAbove_7 fX5_9 hP.p rfl rfl ?_
  refine v_iload_n aX5_keepAbove_10 rfl ?_
  refine v_iald aX5_keepAbove_11 hP.p_low (by omega) (by decide) ?_
  refine v_iload_n aX5_keepAbove_12 rfl ?_
  refine v_iadd aX5_keepAbove_13 ?_
  refine v_icmp_ge 36 rfl aX5_keepAbove_14 (by omega) (by omega) (fun c14 => ?_) (fun c14 => ?_)
  · --
    refine l2_X5_keepAbove hP hh hl hw (fun v v0 v1 => (hx v v0 v1).2) (fun μ' e1 e2 e3 e4 => ⟨rfl, rfl, ?_, fun q q0 q1 q2 => e4 q q0 q1 q2⟩)
    unfold Tr stf stp
    rw [e1, e2, e3]
    dsimp only
    unfold kaL
    rw [if_neg (show ¬ μ (b + 1) h < μ (b + 1) lt + w by omega), if_neg (show ¬ μ (b + 1) h < μ (b + 1) lt + w by omega)]
  · --
    refine v_aload_n aX5_keepAbove_17 rfl ?_
    refine v_getr aX5_keepAbove_18 fX5_9 hP.p rfl rfl ?_
    refine v_iload_n aX5_keepAbove_21 rfl ?_
    refine v_aload_n aX5_keepAbove_22 rfl ?_
    refine v_getr aX5_keepAbove_23 fX5_9 hP.p rfl rfl ?_
    refine v_iload_n aX5_keepAbove_26 rfl ?_
    refine v_iald aX5_keepAbove_27 hP.p_low (by omega) (by decide) ?_
    refine v_iload_n aX5_keepAbove_28 rfl ?_
    refine v_iadd aX5_keepAbove_29 ?_
    refine v_iast aX5_keepAbove_30 hP.p_low (by omega) (by decide) ?_
    refine v_aload_n aX5_keepAbove_31 rfl ?_
    refine v_iconst aX5_keepAbove_32 ?_
    refine v_pi 2 rfl aX5_keepAbove_33 fX5_32 nf5_2 (ok5_2 (by first | exact Or.inl rfl | exact Or.inr rfl | exact b2i_01 | omega)) hP.p rfl rfl ?_
    refine l2_X5_keepAbove hP hh hl hw (fun v v0 v1 => by rw [upd2_row (by omega), upd2_row (by omega)]; exact (hx v v0 v1).2) (fun μ' e1 e2 e3 e4 => ⟨rfl, rfl, ?_, fun q q0 q1 q2 => (e4 q q0 q1 q2).trans ((upd2_row q0).trans (upd2_row q1))⟩)
    unfold Tr stf stp
    rw [e1, e2, e3]
    dsimp only
    rw [upd2_row (show b + 2 ≠ b by omega), upd2_row (show b + 2 ≠ b + 1 by omega), upd2_same, upd2_row (show b + 1 ≠ b by omega), upd2_iup, row_same]
    unfold kaL
    rw [if_pos (show μ (b + 1) h < μ (b + 1) lt + w by omega), if_pos (show μ (b + 1) h < μ (b + 1) lt + w by omega), ite_self]
set_option maxHeartbeats 4000000 in
set_option maxRecDepth 100000 in
theorem ck_X5_keepAbove {h lt w m : Int} (hP : SpnS S b) (hh : 0 ≤ h ∧ h < 6) (hl : 0 ≤ lt ∧ lt < 6) (hw : w ≤ 1 ∧ -4000000 ≤ w) (hb : Bnd m (Tr μ b).1) (hm : 0 ≤ m ∧ m ≤ 2000) : Ct l G cX5_keepAbove (yX5_keepAbove, 4, none, 0, 0, 0) [.ref b, vi h, vi lt, vi w] S μ (Rw S (fun μ' => Tr μ' b = stf (Tr μ b) (h, lt, w) ∧ Bnd (m + 1) (Tr μ' b).1 ∧ (∀ q : Nat, q ≠ b → q ≠ b + 1 → q ≠ b + 2 → μ' q = μ q))) := by
  refine (c_X5_keepAbove hP hh hl hw (fun v v0 v1 => ?_)).mono ?_
  · have := hb v v0 v1
    unfold Tr at this
    dsimp only at this
    omega
  · rintro r S1 μ1 ⟨h1, h2, h3, h4⟩
    refine ⟨h1, h2, h3, ?_, h4⟩
    rw [h3]
    exact bnd_stp hb ⟨hh, hl, hw⟩
set_option maxHeartbeats 4000000 in
set_option maxRecDepth 100000 in
theorem c_X5_hear {q : Nat} {ls : Int} (hP : SpnS S b) (hq : S.2 q = some (aI 5)) (q0 : q ≠ b) (q1 : q ≠ b + 1) (q2 : q ≠ b + 2) (h0 : 0 ≤ μ q 0 ∧ μ q 0 < 6) (h1 : 0 ≤ μ q 1 ∧ μ q 1 < 6) (h3 : 0 ≤ μ q 3 ∧ μ q 3 ≤ 100000) (h4 : 0 ≤ μ q 4 ∧ μ q 4 ≤ 100000) (h2 : 0 ≤ μ q 2 ∧ μ q 2 ≤ 2) (hl : 0 ≤ ls ∧ ls ≤ 20) {m : Int} (hb : Bnd m (Tr μ b).1) (hm : 0 ≤ m ∧ m ≤ 1000) : Ct l G cX5_hear (yX5_hear, 6, none, 1, 0, 0) [.ref b, .ref q, vi ls] S μ (Rw S (fun μ' => Tr μ' b = (edgS (μ q 0) (μ q 1) (μ q 2) (μ q 3) (μ q 4) ls).foldl stf (Tr μ b) ∧ (∀ q : Nat, q ≠ b → q ≠ b + 1 → q ≠ b + 2 → μ' q = μ q))) := by
  have m3 : 0 ≤ ls * μ q 3 ∧ ls * μ q 3 ≤ 20 * μ q 3 := ⟨Int.mul_nonneg hl.1 h3.1, Int.mul_le_mul_of_nonneg_right hl.2 h3.1⟩
  have m4 : 0 ≤ ls * μ q 4 ∧ ls * μ q 4 ≤ 20 * μ q 4 := ⟨Int.mul_nonneg hl.1 h4.1, Int.mul_le_mul_of_nonneg_right hl.2 h4.1⟩
  refine Ct.of (by decide) rfl (by simp [vi, Value.category]) (Nat.le_of_ble_eq_true rfl) ?_
  refine v_aload_n aX5_hear_0 rfl ?_
  refine v_iconst aX5_hear_1 ?_
  refine v_iald aX5_hear_2 hq (by omega) (by decide) ?_
  refine v_istore_n aX5_hear_3 (by decide) rfl ?_
  refine v_aload_n aX5_hear_4 rfl ?_
  refine v_iconst aX5_hear_5 ?_
  refine v_iald aX5_hear_6 hq (by omega) (by decide) ?_
  refine v_istore aX5_hear_7 (by decide) rfl ?_
  refine v_aload_n aX5_hear_9 rfl ?_
  refine v_iconst aX5_hear_10 ?_
  refine v_iald aX5_hear_11 hq (by omega) (by decide) ?_
  refine v_if_ne 19 rfl aX5_hear_12 (by omega) (fun c12 => ?_) (fun c12 => ?_)
  · --
    refine v_iconst aX5_hear_19 ?_
    refine v_istore aX5_hear_20 (by decide) rfl ?_
    refine v_aload_n aX5_hear_22 rfl ?_
    refine v_iconst aX5_hear_23 ?_
    refine v_iald aX5_hear_24 hq (by omega) (by decide) ?_
    refine v_iconst aX5_hear_25 ?_
    refine v_icmp_eq 44 rfl aX5_hear_26 (by omega) (by omega) (fun c26 => ?_) (fun c26 => ?_)
    · --
      refine v_aload_n aX5_hear_44 rfl ?_
      refine v_iconst aX5_hear_45 ?_
      refine v_iald aX5_hear_46 hq (by omega) (by decide) ?_
      try rw [k2 q q0 q1 q2]
      refine v_iconst aX5_hear_47 ?_
      refine v_icmp_eq 66 rfl aX5_hear_48 (by omega) (by omega) (fun c48 => ?_) (fun c48 => ?_)
      · --
        refine v_return aX5_hear_66 rfl ⟨Nat.le_refl _, Nat.le_refl _⟩ ?_
        first
          | (exfalso; omega)
          | (refine ⟨rfl, rfl, ?_, k2⟩
             rw [k1]
             unfold edgS
             first
               | (rw [if_neg c26, if_pos c48, if_pos c12]; rfl)
               | (rw [if_neg c26, if_pos c48, if_neg c12]; rfl))
      · --
        first
          | have hbx := k3
          | have hbx := hb.mono (m' := m + 1) (by omega)
        refine v_aload_n aX5_hear_51 rfl ?_
        refine v_iload aX5_hear_52 rfl ?_
        refine v_iload_n aX5_hear_54 rfl ?_
        refine v_iload aX5_hear_55 rfl ?_
        refine v_iload_n aX5_hear_57 rfl ?_
        refine v_aload_n aX5_hear_58 rfl ?_
        refine v_iconst aX5_hear_59 ?_
        refine v_iald aX5_hear_60 hq (by omega) (by decide) ?_
        try rw [k2 q q0 q1 q2]
        refine v_imul aX5_hear_61 ?_
        refine v_isub aX5_hear_62 ?_
        refine v_cVw (ck_X5_keepAbove hP (by omega) (by omega) (by omega) hbx (by omega)) aX5_hear_63 mX5_keepAbove vX5_keepAbove lX5_58 hP.p rfl rfl rfl rfl rfl (Nat.le_of_ble_eq_true rfl) ⟨Nat.le_of_ble_eq_true rfl, Nat.le_of_ble_eq_true rfl⟩ (Nat.le_of_ble_eq_true rfl) (fun μ2 ⟨j1, j3, j2⟩ => ?_)
        refine v_return aX5_hear_66 rfl ⟨Nat.le_refl _, Nat.le_refl _⟩ ?_
        first
          | (refine ⟨rfl, rfl, ?_, fun p p0 p1 p2 => (j2 p p0 p1 p2).trans (k2 p p0 p1 p2)⟩
             rw [j1, k1]
             unfold edgS
             first
               | (rw [if_neg c26, if_neg c48, if_pos c12]; rfl)
               | (rw [if_neg c26, if_neg c48, if_neg c12]; rfl))
          | (refine ⟨rfl, rfl, ?_, j2⟩
             rw [j1]
             unfold edgS
             first
               | (rw [if_pos c26, if_neg c48, if_pos c12]; rfl)
               | (rw [if_pos c26, if_neg c48, if_neg c12]; rfl))
    · --
      refine v_aload_n aX5_hear_29 rfl ?_
      refine v_iload_n aX5_hear_30 rfl ?_
      refine v_iload aX5_hear_31 rfl ?_
      refine v_iload aX5_hear_33 rfl ?_
      refine v_iload_n aX5_hear_35 rfl ?_
      refine v_aload_n aX5_hear_36 rfl ?_
      refine v_iconst aX5_hear_37 ?_
      refine v_iald aX5_hear_38 hq (by omega) (by decide) ?_
      refine v_imul aX5_hear_39 ?_
      refine v_isub aX5_hear_40 ?_
      refine v_cVw (ck_X5_keepAbove hP h0 h1 (by omega) hb (by omega)) aX5_hear_41 mX5_keepAbove vX5_keepAbove lX5_58 hP.p rfl rfl rfl rfl rfl (Nat.le_of_ble_eq_true rfl) ⟨Nat.le_of_ble_eq_true rfl, Nat.le_of_ble_eq_true rfl⟩ (Nat.le_of_ble_eq_true rfl) (fun μ1 ⟨k1, k3, k2⟩ => ?_)
      refine v_aload_n aX5_hear_44 rfl ?_
      refine v_iconst aX5_hear_45 ?_
      refine v_iald aX5_hear_46 hq (by omega) (by decide) ?_
      try rw [k2 q q0 q1 q2]
      refine v_iconst aX5_hear_47 ?_
      refine v_icmp_eq 66 rfl aX5_hear_48 (by omega) (by omega) (fun c48 => ?_) (fun c48 => ?_)
      · --
        refine v_return aX5_hear_66 rfl ⟨Nat.le_refl _, Nat.le_refl _⟩ ?_
        first
          | (exfalso; omega)
          | (refine ⟨rfl, rfl, ?_, k2⟩
             rw [k1]
             unfold edgS
             first
               | (rw [if_neg c26, if_pos c48, if_pos c12]; rfl)
               | (rw [if_neg c26, if_pos c48, if_neg c12]; rfl))
      · --
        first
          | have hbx := k3
          | have hbx := hb.mono (m' := m + 1) (by omega)
        refine v_aload_n aX5_hear_51 rfl ?_
        refine v_iload aX5_hear_52 rfl ?_
        refine v_iload_n aX5_hear_54 rfl ?_
        refine v_iload aX5_hear_55 rfl ?_
        refine v_iload_n aX5_hear_57 rfl ?_
        refine v_aload_n aX5_hear_58 rfl ?_
        refine v_iconst aX5_hear_59 ?_
        refine v_iald aX5_hear_60 hq (by omega) (by decide) ?_
        try rw [k2 q q0 q1 q2]
        refine v_imul aX5_hear_61 ?_
        refine v_isub aX5_hear_62 ?_
        refine v_cVw (ck_X5_keepAbove hP (by omega) (by omega) (by omega) hbx (by omega)) aX5_hear_63 mX5_keepAbove vX5_keepAbove lX5_58 hP.p rfl rfl rfl rfl rfl (Nat.le_of_ble_eq_true rfl) ⟨Nat.le_of_ble_eq_true rfl, Nat.le_of_ble_eq_true rfl⟩ (Nat.le_of_ble_eq_true rfl) (fun μ2 ⟨j1, j3, j2⟩ => ?_)
        refine v_return aX5_hear_66 rfl ⟨Nat.le_refl _, Nat.le_refl _⟩ ?_
        first
          | (refine ⟨rfl, rfl, ?_, fun p p0 p1 p2 => (j2 p p0 p1 p2).trans (k2 p p0 p1 p2)⟩
             rw [j1, k1]
             unfold edgS
             first
               | (rw [if_neg c26, if_neg c48, if_pos c12]; rfl)
               | (rw [if_neg c26, if_neg c48, if_neg c12]; rfl))
          | (refine ⟨rfl, rfl, ?_, j2⟩
             rw [j1]
             unfold edgS
             first
               | (rw [if_pos c26, if_neg c48, if_pos c12]; rfl)
               | (rw [if_pos c26, if_neg c48, if_neg c12]; rfl))
  · --
    refine v_iconst aX5_hear_15 ?_
    refine v_goto 20 rfl aX5_hear_16 ?_
    refine v_istore aX5_hear_20 (by decide) rfl ?_
    refine v_aload_n aX5_hear_22 rfl ?_
    refine v_iconst aX5_hear_23 ?_
    refine v_iald aX5_hear_24 hq (by omega) (by decide) ?_
    refine v_iconst aX5_hear_25 ?_
    refine v_icmp_eq 44 rfl aX5_hear_26 (by omega) (by omega) (fun c26 => ?_) (fun c26 => ?_)
    · --
      refine v_aload_n aX5_hear_44 rfl ?_
      refine v_iconst aX5_hear_45 ?_
      refine v_iald aX5_hear_46 hq (by omega) (by decide) ?_
      try rw [k2 q q0 q1 q2]
      refine v_iconst aX5_hear_47 ?_
      refine v_icmp_eq 66 rfl aX5_hear_48 (by omega) (by omega) (fun c48 => ?_) (fun c48 => ?_)
      · --
        refine v_return aX5_hear_66 rfl ⟨Nat.le_refl _, Nat.le_refl _⟩ ?_
        first
          | (exfalso; omega)
          | (refine ⟨rfl, rfl, ?_, k2⟩
             rw [k1]
             unfold edgS
             first
               | (rw [if_neg c26, if_pos c48, if_pos c12]; rfl)
               | (rw [if_neg c26, if_pos c48, if_neg c12]; rfl))
      · --
        first
          | have hbx := k3
          | have hbx := hb.mono (m' := m + 1) (by omega)
        refine v_aload_n aX5_hear_51 rfl ?_
        refine v_iload aX5_hear_52 rfl ?_
        refine v_iload_n aX5_hear_54 rfl ?_
        refine v_iload aX5_hear_55 rfl ?_
        refine v_iload_n aX5_hear_57 rfl ?_
        refine v_aload_n aX5_hear_58 rfl ?_
        refine v_iconst aX5_hear_59 ?_
        refine v_iald aX5_hear_60 hq (by omega) (by decide) ?_
        try rw [k2 q q0 q1 q2]
        refine v_imul aX5_hear_61 ?_
        refine v_isub aX5_hear_62 ?_
        refine v_cVw (ck_X5_keepAbove hP (by omega) (by omega) (by omega) hbx (by omega)) aX5_hear_63 mX5_keepAbove vX5_keepAbove lX5_58 hP.p rfl rfl rfl rfl rfl (Nat.le_of_ble_eq_true rfl) ⟨Nat.le_of_ble_eq_true rfl, Nat.le_of_ble_eq_true rfl⟩ (Nat.le_of_ble_eq_true rfl) (fun μ2 ⟨j1, j3, j2⟩ => ?_)
        refine v_return aX5_hear_66 rfl ⟨Nat.le_refl _, Nat.le_refl _⟩ ?_
        first
          | (refine ⟨rfl, rfl, ?_, fun p p0 p1 p2 => (j2 p p0 p1 p2).trans (k2 p p0 p1 p2)⟩
             rw [j1, k1]
             unfold edgS
             first
               | (rw [if_neg c26, if_neg c48, if_pos c12]; rfl)
               | (rw [if_neg c26, if_neg c48, if_neg c12]; rfl))
          | (refine ⟨rfl, rfl, ?_, j2⟩
             rw [j1]
             unfold edgS
             first
               | (rw [if_pos c26, if_neg c48, if_pos c12]; rfl)
               | (rw [if_pos c26, if_neg c48, if_neg c12]; rfl))
    · --
      refine v_aload_n aX5_hear_29 rfl ?_
      refine v_iload_n aX5_hear_30 rfl ?_
      refine v_iload aX5_hear_31 rfl ?_
      refine v_iload aX5_hear_33 rfl ?_
      refine v_iload_n aX5_hear_35 rfl ?_
      refine v_aload_n aX5_hear_36 rfl ?_
      refine v_iconst aX5_hear_37 ?_
      refine v_iald aX5_hear_38 hq (by omega) (by decide) ?_
      refine v_imul aX5_hear_39 ?_
      refine v_isub aX5_hear_40 ?_
      refine v_cVw (ck_X5_keepAbove hP h0 h1 (by omega) hb (by omega)) aX5_hear_41 mX5_keepAbove vX5_keepAbove lX5_58 hP.p rfl rfl rfl rfl rfl (Nat.le_of_ble_eq_true rfl) ⟨Nat.le_of_ble_eq_true rfl, Nat.le_of_ble_eq_true rfl⟩ (Nat.le_of_ble_eq_true rfl) (fun μ1 ⟨k1, k3, k2⟩ => ?_)
      refine v_aload_n aX5_hear_44 rfl ?_
      refine v_iconst aX5_hear_45 ?_
      refine v_iald aX5_hear_46 hq (by omega) (by decide) ?_
      try rw [k2 q q0 q1 q2]
      refine v_iconst aX5_hear_47 ?_
      refine v_icmp_eq 66 rfl aX5_hear_48 (by omega) (by omega) (fun c48 => ?_) (fun c48 => ?_)
      · --
        refine v_return aX5_hear_66 rfl ⟨Nat.le_refl _, Nat.le_refl _⟩ ?_
        first
          | (exfalso; omega)
          | (refine ⟨rfl, rfl, ?_, k2⟩
             rw [k1]
             unfold edgS
             first
               | (rw [if_neg c26, if_pos c48, if_pos c12]; rfl)
               | (rw [if_neg c26, if_pos c48, if_neg c12]; rfl))
      · --
        first
          | have hbx := k3
          | have hbx := hb.mono (m' := m + 1) (by omega)
        refine v_aload_n aX5_hear_51 rfl ?_
        refine v_iload aX5_hear_52 rfl ?_
        refine v_iload_n aX5_hear_54 rfl ?_
        refine v_iload aX5_hear_55 rfl ?_
        refine v_iload_n aX5_hear_57 rfl ?_
        refine v_aload_n aX5_hear_58 rfl ?_
        refine v_iconst aX5_hear_59 ?_
        refine v_iald aX5_hear_60 hq (by omega) (by decide) ?_
        try rw [k2 q q0 q1 q2]
        refine v_imul aX5_hear_61 ?_
        refine v_isub aX5_hear_62 ?_
        refine v_cVw (ck_X5_keepAbove hP (by omega) (by omega) (by omega) hbx (by omega)) aX5_hear_63 mX5_keepAbove vX5_keepAbove lX5_58 hP.p rfl rfl rfl rfl rfl (Nat.le_of_ble_eq_true rfl) ⟨Nat.le_of_ble_eq_true rfl, Nat.le_of_ble_eq_true rfl⟩ (Nat.le_of_ble_eq_true rfl) (fun μ2 ⟨j1, j3, j2⟩ => ?_)
        refine v_return aX5_hear_66 rfl ⟨Nat.le_refl _, Nat.le_refl _⟩ ?_
        first
          | (refine ⟨rfl, rfl, ?_, fun p p0 p1 p2 => (j2 p p0 p1 p2).trans (k2 p p0 p1 p2)⟩
             rw [j1, k1]
             unfold edgS
             first
               | (rw [if_neg c26, if_neg c48, if_pos c12]; rfl)
               | (rw [if_neg c26, if_neg c48, if_neg c12]; rfl))
          | (refine ⟨rfl, rfl, ?_, j2⟩
             rw [j1]
             unfold edgS
             first
               | (rw [if_pos c26, if_neg c48, if_pos c12]; rfl)
               | (rw [if_pos c26, if_neg c48, if_neg c12]; rfl))
set_option maxHeartbeats 4000000 in
set_option maxRecDepth 100000 in
theorem li_X5_allFit {n : Int} (hP : SpnS S b) (hn : 0 ≤ n ∧ n ≤ 6) (hx : ∀ v : Int, 0 ≤ v → v < 6 → (-100000 ≤ μ (b + 1) v ∧ μ (b + 1) v ≤ 100000) ∧ (-100000 ≤ μ (b + 2) v ∧ μ (b + 2) v ≤ 100000)) : ∀ (N : Nat) (i : Int), (0 ≤ i ∧ i ≤ n) → n - i < N → (∀ v : Int, 0 ≤ v → v < i → μ (b + 1) v ≤ μ (b + 2) v) → V l G cX5_allFit (yX5_allFit, 3, (some FieldType.boolean), 0, 0, 0) (Ri S (b2i (∀ v : Int, 0 ≤ v → v < n → μ (b + 1) v ≤ μ (b + 2) v)) μ) (0, 0) S μ 2 [.ref b, vi n, vi i] [] := by
  intro N
  induction N with
  | zero => intros; omega
  | succ N ih =>
    intro i h0 h1 hp
    have hxi := fun q => hx i h0.1 q
    refine v_iload_n aX5_allFit_2 rfl ?_
    refine v_iload_n aX5_allFit_3 rfl ?_
    refine v_icmp_ge 30 rfl aX5_allFit_4 (by omega) (by omega) (fun c4 => ?_) (fun c4 => ?_)
    · --
      refine v_iconst aX5_allFit_30 ?_
      refine v_zreturn aX5_allFit_31 rfl ⟨Nat.le_refl _, Nat.le_refl _⟩ (by first | exact Or.inl rfl | exact Or.inr rfl | exact b2i_01 | omega) ?_
      exact ⟨congrArg (fun z => some (vi z)) (b2i_t (fun v v0 v1 => hp v v0 (by omega))).symm, rfl, rfl⟩
    · --
      have hxi := hxi (by omega)
      refine v_aload_n aX5_allFit_7 rfl ?_
      refine v_getr aX5_allFit_8 fX5_9 hP.p rfl rfl ?_
      refine v_iload_n aX5_allFit_11 rfl ?_
      refine v_iald aX5_allFit_12 hP.p_low (by omega) (by decide) ?_
      refine v_aload_n aX5_allFit_13 rfl ?_
      refine v_getr aX5_allFit_14 fX5_15 hP.p rfl rfl ?_
      refine v_iload_n aX5_allFit_17 rfl ?_
      refine v_iald aX5_allFit_18 hP.p_high (by omega) (by decide) ?_
      refine v_icmp_le 24 rfl aX5_allFit_19 (by omega) (by omega) (fun c19 => ?_) (fun c19 => ?_)
      · --
        refine v_iinc aX5_allFit_24 rfl (by decide) rfl ?_
        refine v_goto 2 rfl aX5_allFit_27 ?_
        refine ih (i + 1) (by omega) (by omega) (fun v v0 v1 => ?_)
        by_cases e : v = i
        · rw [e]; omega
        · exact hp v v0 (by omega)
      · --
        refine v_iconst aX5_allFit_22 ?_
        refine v_zreturn aX5_allFit_23 rfl ⟨Nat.le_refl _, Nat.le_refl _⟩ (by first | exact Or.inl rfl | exact Or.inr rfl | exact b2i_01 | omega) ?_
        exact ⟨congrArg (fun z => some (vi z)) (b2i_f (fun q => absurd (q i h0.1 (by omega)) (by omega))).symm, rfl, rfl⟩
set_option maxHeartbeats 4000000 in
set_option maxRecDepth 100000 in
theorem c_X5_allFit {n : Int} (hP : SpnS S b) (hn : 0 ≤ n ∧ n ≤ 6) (hx : ∀ v : Int, 0 ≤ v → v < 6 → (-100000 ≤ μ (b + 1) v ∧ μ (b + 1) v ≤ 100000) ∧ (-100000 ≤ μ (b + 2) v ∧ μ (b + 2) v ≤ 100000)) : Ct l G cX5_allFit (yX5_allFit, 3, (some FieldType.boolean), 0, 0, 0) [.ref b, vi n] S μ (Ri S (b2i (∀ v : Int, 0 ≤ v → v < n → μ (b + 1) v ≤ μ (b + 2) v)) μ) := by
  refine Ct.of (by decide) rfl (by simp [vi, Value.category]) (Nat.le_of_ble_eq_true rfl) ?_
  refine v_iconst aX5_allFit_0 ?_
  refine v_istore_n aX5_allFit_1 (by decide) rfl ?_
  exact li_X5_allFit hP hn hx 7 0 (by omega) (by omega) (fun v v0 v1 => absurd v0 (by omega))
theorem Bnd.x {m : Int} {μ : Mu} {b : Nat} (h : Bnd m (Tr μ b).1) (hm : 0 ≤ m ∧ m ≤ 2000) : ∀ v : Int, 0 ≤ v → v < 6 → (-100000 ≤ μ (b + 1) v ∧ μ (b + 1) v ≤ 100000) ∧ (-100000 ≤ μ (b + 2) v ∧ μ (b + 2) v ≤ 100000) := fun v v0 v1 => by
  have := h v v0 v1
  unfold Tr at this
  dsimp only at this
  omega
set_option maxHeartbeats 4000000 in
set_option maxRecDepth 100000 in
theorem li_X5_settle {μ0 : Mu} {r m : Int} {P : Pst} {T0 : Spn × Int} (hP : SpnS S b) (hB : BookS S k) (hd : b + 3 ≤ k ∨ k + 19 ≤ b) (ht : BkAt μ0 k t) (hok : StOk t B) (hBB : B ≤ 100000) (hb : Bnd m T0.1) (hm : 0 ≤ m ∧ m ≤ 500) (hh : ∀ (μ : Mu) (L : List Value), Tr μ b = (edsS t t.2.1.toNat).foldl stf T0 → (∀ q : Nat, q ≠ b → q ≠ b + 1 → q ≠ b + 2 → μ q = μ0 q) → V l G cX5_settle (yX5_settle, 4, (some FieldType.boolean), 2, 0, 0) P (0, 0) S μ 73 ([.ref b, .ref k, vi r] ++ L) []) : ∀ (N : Nat) (i : Int) (μ : Mu), (0 ≤ i ∧ i ≤ t.2.1) → t.2.1 - i < N → Tr μ b = (edsS t i.toNat).foldl stf T0 → (∀ q : Nat, q ≠ b → q ≠ b + 1 → q ≠ b + 2 → μ q = μ0 q) → V l G cX5_settle (yX5_settle, 4, (some FieldType.boolean), 2, 0, 0) P (0, 0) S μ 45 [.ref b, .ref k, vi r, vi i] [] := by
  intro N
  induction N with
  | zero => intros; omega
  | succ N ih =>
    intro i μ h0 h1 hT hk
    obtain ⟨o1, o2, o3, o4, o5⟩ := id hok
    have ht' : BkAt μ k t := ht.kept (fun q q0 q1 => hk q (by omega) (by omega) (by omega))
    have t7 : μ k 7 = t.2.1 := ht'.2.1
    have t8 : μ k 8 = t.2.2.1 := ht'.2.2.1
    have hrow : i < 12 → S.2 (k + 2 + i.toNat) = some (aI 5) := fun h => hB.p_row i.toNat (by omega)
    have hb2 : Bnd (m + 24) (Tr μ b).1 := by
      rw [hT, stf_fst]
      refine (bnd_rd (edsS t i.toNat) m T0.1 hb (edsS_in hok hBB _ (by omega))).mono ?_
      have := len_edsS (t := t) i.toNat
      omega
    refine v_iload_n aX5_settle_45 rfl ?_
    refine v_aload_n aX5_settle_46 rfl ?_
    refine v_gi 7 rfl aX5_settle_47 fX5_36 hB.p rfl rfl ?_
    rw [t7]
    refine v_icmp_ge 73 rfl aX5_settle_50 (by omega) (by omega) (fun c50 => ?_) (fun c50 => ?_)
    · --
      obtain rfl : i = t.2.1 := by omega
      exact hh μ [vi _] hT hk
    · --
      refine v_aload_n aX5_settle_53 rfl ?_
      refine v_aload_n aX5_settle_54 rfl ?_
      refine v_getr aX5_settle_55 fX5_40 hB.p rfl rfl ?_
      refine v_iload_n aX5_settle_58 rfl ?_
      have hrow := hrow (by omega)
      have hii := o4 i h0.1 (by omega)
      have e0 := ht'.2.2.2.1 i.toNat (by omega) 0 (by omega) (by omega)
      have e1 := ht'.2.2.2.1 i.toNat (by omega) 1 (by omega) (by omega)
      have e2 := ht'.2.2.2.1 i.toNat (by omega) 2 (by omega) (by omega)
      have e3 := ht'.2.2.2.1 i.toNat (by omega) 3 (by omega) (by omega)
      have e4 := ht'.2.2.2.1 i.toNat (by omega) 4 (by omega) (by omega)
      rw [show ((i.toNat : Nat) : Int) = i by omega] at e0 e1 e2 e3 e4
      rw [Int.add_zero] at e0
      refine v_aaldR (kk := 102) (q := k + 2 + i.toNat) rfl rfl aX5_settle_59 hB.p_sayings (by omega) (by decide) (by simp; omega) ?_
      refine v_aload_n aX5_settle_60 rfl ?_
      refine v_gi 8 rfl aX5_settle_61 fX5_44 hB.p rfl rfl ?_
      rw [t8]
      refine v_cVw (c_X5_hear hP hrow (by omega) (by omega) (by omega) (by omega) (by omega) (by omega) (by omega) (by omega) o3 hb2 (by omega)) aX5_settle_64 mX5_hear vX5_hear lX5_47 hP.p rfl rfl rfl rfl rfl (Nat.le_of_ble_eq_true rfl) ⟨Nat.le_of_ble_eq_true rfl, Nat.le_of_ble_eq_true rfl⟩ (Nat.le_of_ble_eq_true rfl) (fun μ1 ⟨k1, k2⟩ => ?_)
      refine v_iinc aX5_settle_67 rfl (by decide) rfl ?_
      refine v_goto 45 rfl aX5_settle_70 ?_
      refine ih (i + 1) μ1 (by omega) (by omega) ?_ (fun q q0 q1 q2 => (k2 q q0 q1 q2).trans (hk q q0 q1 q2))
      rw [k1, hT, e0, e1, e2, e3, e4, show (i + 1).toNat = i.toNat + 1 by omega]
      show _ = (edsS t i.toNat ++ edgS _ _ _ _ _ _).foldl stf T0
      rw [List.foldl_append, show ((i.toNat : Nat) : Int) = i by omega]
set_option maxHeartbeats 4000000 in
set_option maxRecDepth 100000 in
theorem lo_X5_settle {μ0 : Mu} (hP : SpnS S b) (hB : BookS S k) (hd : b + 3 ≤ k ∨ k + 19 ≤ b) (ht : BkAt μ0 k t) (hok : StOk t B) (hBB : B ≤ 100000) : ∀ (N : Nat) (r : Nat) (μ : Mu) (L : List Value), r ≤ 7 → 7 - r < N → Eq6p (Tr μ b).1 (spX t r) → (1 ≤ r → Dm (spX t r) < Dm (spX t (r - 1))) → (∀ q : Nat, q ≠ b → q ≠ b + 1 → q ≠ b + 2 → μ q = μ0 q) → V l G cX5_settle (yX5_settle, 4, (some FieldType.boolean), 2, 0, 0) (Re S (fun z μ' => ((z = 1 ∧ ∃ r, SpA t r ∧ Eq6p (μ' (b + 1), μ' (b + 2)) (spX t r)) ∨ (z = 0 ∧ ∀ r, ¬ SpA t r)) ∧ (∀ q : Nat, q ≠ b → q ≠ b + 1 → q ≠ b + 2 → μ' q = μ0 q))) (0, 0) S μ 32 ([.ref b, .ref k, vi (r : Int)] ++ L) [] := by
  intro N
  induction N with
  | zero => intros; omega
  | succ N ih =>
    intro r μ L h0 h1 hq hD hk
    obtain ⟨o1, o2, o3, o4, o5⟩ := id hok
    have hin := edsS_in hok hBB t.2.1.toNat (by omega)
    have hb0 : Bnd (24 * (r : Int)) (Tr μ b).1 := (spX_bnd hok hBB r).eq hq
    refine v_take 3 rfl ?_
    show V _ _ _ _ _ _ _ _ _ [.ref b, .ref k, vi (r : Int)] _
    refine v_iload_n aX5_settle_32 rfl ?_
    refine v_bipush (by decide) aX5_settle_33 ?_
    refine v_icmp_gt 95 rfl aX5_settle_35 (by omega) (by omega) (fun c35 => ?_) (fun c35 => ?_)
    · --
      refine v_iconst aX5_settle_95 ?_
      refine v_zreturn aX5_settle_96 rfl ⟨Nat.le_refl _, Nat.le_refl _⟩ (by first | exact Or.inl rfl | exact Or.inr rfl | exact b2i_01 | omega) ?_
      obtain rfl : r = 7 := by omega
      refine ⟨_, rfl, rfl, Or.inr ⟨rfl, fun r' hr' => ?_⟩, hk⟩
      have h6 := its_6 hin hr'.1
      have := hD (by decide)
      rw [show spX t 7 = spX t 6 from rd_fix h6] at this
      exact absurd this (Int.lt_irrefl _)
    · --
      refine v_aload_n aX5_settle_38 rfl ?_
      refine v_iconst aX5_settle_39 ?_
      refine v_pi 2 rfl aX5_settle_40 fX5_32 nf5_2 (ok5_2 (by first | exact Or.inl rfl | exact Or.inr rfl | exact b2i_01 | omega)) hP.p rfl rfl ?_
      refine v_iconst aX5_settle_43 ?_
      refine v_istore_n aX5_settle_44 (by decide) rfl ?_
      refine li_X5_settle (T0 := ((Tr μ b).1, 0)) hP hB hd ht hok hBB hb0 (by omega) (fun μ2 L2 e1 e2 => ?_) 13 0 _ (by omega) (by omega) ?_ (fun q q0 q1 q2 => (upd2_row q0).trans (hk q q0 q1 q2))
      · have hf := fold_mv (X0 := spX t r) (edsS t t.2.1.toNat) (Tr μ b).1 (spX t r) 0 hin hq (Or.inl ⟨rfl, rfl⟩)
        rw [← e1] at hf
        have hq2 : Eq6p (Tr μ2 b).1 (spX t (r + 1)) := hf.1
        have hm2 : Mvd (μ2 b 2) (spX t r) (spX t (r + 1)) := hf.2
        have hb2 : Bnd (24 * ((r + 1 : Nat) : Int)) (Tr μ2 b).1 := (spX_bnd hok hBB (r + 1)).eq hq2
        have ht2 : BkAt μ2 k t := ht.kept (fun q q0 q1 => e2 q (by omega) (by omega) (by omega))
        have t6 : μ2 k 6 = t.1 := ht2.1
        have hfl : μ2 b 2 = 0 ∨ μ2 b 2 = 1 := hm2.imp (fun z => z.1) (fun z => z.1)
        refine v_take 3 rfl ?_
        show V _ _ _ _ _ _ _ _ _ [.ref b, .ref k, vi (r : Int)] _
        refine v_aload_n aX5_settle_73 rfl ?_
        refine v_gi 2 rfl aX5_settle_74 fX5_32 hP.p rfl rfl ?_
        refine v_if_ne 89 rfl aX5_settle_77 (by omega) (fun c77 => ?_) (fun c77 => ?_)
        · --
          refine v_iinc aX5_settle_89 rfl (by decide) rfl ?_
          refine v_goto 32 rfl aX5_settle_92 ?_
          have := ih (r + 1) μ2 [] (by omega) (by omega) hq2 (fun _ => ?_) e2
          · exact this
          · rcases hm2 with z | z
            · exact absurd z.1 c77
            · exact z.2
        · --
          refine v_aload_n aX5_settle_80 rfl ?_
          refine v_aload_n aX5_settle_81 rfl ?_
          refine v_gi 6 rfl aX5_settle_82 fX5_51 hB.p rfl rfl ?_
          rw [t6]
          refine v_cVi (c_X5_allFit hP (by omega) (hb2.x (by omega))) aX5_settle_85 mX5_allFit vX5_allFit lX5_54 hP.p rfl rfl rfl rfl rfl (Nat.le_of_ble_eq_true rfl) ⟨Nat.le_of_ble_eq_true rfl, Nat.le_of_ble_eq_true rfl⟩ (Nat.le_of_ble_eq_true rfl) ?_
          refine v_zreturn aX5_settle_88 rfl ⟨Nat.le_refl _, Nat.le_refl _⟩ (by first | exact Or.inl rfl | exact Or.inr rfl | exact b2i_01 | omega) ?_
          have hX : spX t (r + 1) = spX t r := hm2.elim (fun z => z.2) (fun z => absurd z.1 (by omega))
          have hS : SatP (edsS t t.2.1.toNat) (spX t r) := Classical.byContradiction fun z => by
            have := sat_of_fix hin z
            rw [show rd (edsS t t.2.1.toNat) (spX t r) = spX t r from hX] at this
            omega
          refine ⟨_, rfl, rfl, ?_, e2⟩
          rw [hX] at hq2
          by_cases q : ∀ v : Int, 0 ≤ v → v < t.1 → μ2 (b + 1) v ≤ μ2 (b + 2) v
          · refine Or.inl ⟨b2i_t q, r, ⟨hS, fun v v0 v1 => ?_⟩, hq2⟩
            rw [← hq2.1 v v0 (by omega), ← hq2.2 v v0 (by omega)]
            exact q v v0 v1
          · refine Or.inr ⟨b2i_f q, fun r' hr' => q (fun v v0 v1 => ?_)⟩
            have := hr'.2 v v0 v1
            rw [spX_eq hr'.1 hS, ← hq2.1 v v0 (by omega), ← hq2.2 v v0 (by omega)] at this
            exact this
      · unfold Tr
        rw [upd2_row (by omega), upd2_row (by omega), upd2_same]
        rfl
set_option maxHeartbeats 4000000 in
set_option maxRecDepth 100000 in
theorem c_X5_settle {μ0 : Mu} (hP : SpnS S b) (hB : BookS S k) (hd : b + 3 ≤ k ∨ k + 19 ≤ b) (ht : BkAt μ0 k t) (hok : StOk t B) (hBB : B ≤ 100000) : Ct l G cX5_settle (yX5_settle, 4, (some FieldType.boolean), 2, 0, 0) [.ref b, .ref k] S μ0 (Re S (fun z μ' => ((z = 1 ∧ ∃ r, SpA t r ∧ Eq6p (μ' (b + 1), μ' (b + 2)) (spX t r)) ∨ (z = 0 ∧ ∀ r, ¬ SpA t r)) ∧ (∀ q : Nat, q ≠ b → q ≠ b + 1 → q ≠ b + 2 → μ' q = μ0 q))) := by
  refine Ct.of (by decide) rfl (by simp [vi, Value.category]) (Nat.le_of_ble_eq_true rfl) ?_
  refine v_aload_n aX5_settle_0 rfl ?_
  refine v_getr aX5_settle_1 fX5_18 hB.p rfl rfl ?_
  refine v_iconst aX5_settle_4 ?_
  refine v_aload_n aX5_settle_5 rfl ?_
  refine v_getr aX5_settle_6 fX5_9 hP.p rfl rfl ?_
  refine v_iconst aX5_settle_9 ?_
  refine v_bipush (by decide) aX5_settle_10 ?_
  refine v_copy aX5_settle_12 laX5_23 w_acn w_acs w_sysi hB.p_least hP.p_low (by omega) (by decide) (by decide) (by decide) (by decide) (by decide) (by decide) (by decide) (Nat.le_of_ble_eq_true rfl) (Nat.le_of_ble_eq_true rfl) ?_
  refine v_aload_n aX5_settle_15 rfl ?_
  refine v_getr aX5_settle_16 fX5_29 hB.p rfl rfl ?_
  refine v_iconst aX5_settle_19 ?_
  refine v_aload_n aX5_settle_20 rfl ?_
  refine v_getr aX5_settle_21 fX5_15 hP.p rfl rfl ?_
  refine v_iconst aX5_settle_24 ?_
  refine v_bipush (by decide) aX5_settle_25 ?_
  refine v_copy aX5_settle_27 laX5_23 w_acn w_acs w_sysi hB.p_greatest hP.p_high (by omega) (by decide) (by decide) (by decide) (by decide) (by decide) (by decide) (by decide) (Nat.le_of_ble_eq_true rfl) (Nat.le_of_ble_eq_true rfl) ?_
  refine v_iconst aX5_settle_30 ?_
  refine v_istore_n aX5_settle_31 (by decide) rfl ?_
  refine lo_X5_settle hP hB hd ht hok hBB 8 0 _ [] (by omega) (by omega) ⟨?_, ?_⟩ (fun h => absurd h (by omega)) (fun q q0 q1 q2 => (row_ne q2).trans (row_ne q1))
  · unfold Tr
    dsimp only
    rw [row_ne (show b + 1 ≠ b + 2 by omega), row_same]
    exact fun v v0 v1 => (icp6 v v0 v1).trans (ht.2.2.2.2.2.1 v v0 v1)
  · unfold Tr
    dsimp only
    rw [row_same]
    refine fun v v0 v1 => (icp6 v v0 v1).trans ?_
    rw [row_ne (show k + 16 ≠ b + 1 by omega)]
    exact ht.2.2.2.2.2.2.1 v v0 v1
end SPC
section SPL
variable {l : Launch} {G : Glb} {S : Sh} {μ : Mu} {x : Nat} {im pl : Nat → Option Nat} {t : BSt} {g : Int → Int} {n B : Int}
set_option maxHeartbeats 4000000 in
set_option maxRecDepth 100000 in
theorem c_X7_span {s e : Int} (hX : LsS S x im pl) (h : LsAt μ x t g n) (hok : StOk t B) (hBB : B ≤ 100000) (hs : (-2147483648 ≤ s ∧ s < 2147483648)) (he : (-2147483648 ≤ e ∧ e < 2147483648)) : Ct l G cX7_span (yX7_span, 3, (some FieldType.int), 3, 0, 0) [.ref x, vi s, vi e] S μ (Re S (fun z μ' => SpanQ t s e z ∧ LsAt μ' x t g n ∧ Out μ μ' x 33)) := by
  obtain ⟨o1, o2, o3, o4, o5⟩ := id hok
  have f6 : μ (x + 3) 6 = t.1 := h.1.1
  refine Ct.of (by decide) rfl (by simp [vi, Value.category]) (Nat.le_of_ble_eq_true rfl) ?_
  refine v_aload_n aX7_span_0 rfl ?_
  refine v_getr aX7_span_1 fX7_19 hX.p rfl rfl ?_
  refine v_iload_n aX7_span_4 rfl ?_
  refine v_cVi (c_X0_has hX.book (by omega) (by omega)) aX7_span_5 mX0_has vX0_has lX7_93 hX.book.p rfl rfl rfl rfl rfl (Nat.le_of_ble_eq_true rfl) ⟨Nat.le_of_ble_eq_true rfl, Nat.le_of_ble_eq_true rfl⟩ (Nat.le_of_ble_eq_true rfl) ?_
  refine v_if_ne_b 13 rfl aX7_span_8 (fun c8 => ?_) (fun c8 => ?_)
  · --
    refine v_iload_n aX7_span_13 rfl ?_
    refine v_cSi (c_X7_isEnd he) aX7_span_14 mX7_isEnd sX7_isEnd lX7_112 rfl rfl (Nat.le_of_ble_eq_true rfl) ⟨Nat.le_of_ble_eq_true rfl, Nat.le_of_ble_eq_true rfl⟩ (Nat.le_of_ble_eq_true rfl) ?_
    refine v_if_ne_b 23 rfl aX7_span_17 (fun c17 => ?_) (fun c17 => ?_)
    · --
      refine v_aload_n aX7_span_23 rfl ?_
      refine v_getr aX7_span_24 fX7_37 hX.p rfl rfl ?_
      refine v_aload_n aX7_span_27 rfl ?_
      refine v_getr aX7_span_28 fX7_19 hX.p rfl rfl ?_
      refine v_cVe (c_X5_settle hX.spans hX.book (by omega) h.1 hok hBB) aX7_span_31 mX5_settle vX5_settle lX7_188 hX.spans.p rfl rfl rfl rfl rfl (Nat.le_of_ble_eq_true rfl) ⟨Nat.le_of_ble_eq_true rfl, Nat.le_of_ble_eq_true rfl⟩ (Nat.le_of_ble_eq_true rfl) (fun z μ' ⟨hz, hk⟩ => ?_)
      have hL : LsAt μ' x t g n := h.kp (fun q q0 q1 => hk q (by omega) (by omega) (by omega))
      have hO : Out μ μ' x 33 := fun q hq => hk q (by omega) (by omega) (by omega)
      have hzr : z = 0 ∨ z = 1 := hz.elim (fun y => Or.inr y.1) (fun y => Or.inl y.1)
      refine v_if_ne 40 rfl aX7_span_34 (by omega) (fun c34 => ?_) (fun c34 => ?_)
      · --
        refine v_iload_n aX7_span_40 rfl ?_
        refine v_if_ne 56 rfl aX7_span_41 (by omega) (fun c41 => ?_) (fun c41 => ?_)
        · --
          refine v_aload_n aX7_span_56 rfl ?_
          refine v_getr aX7_span_57 fX7_37 hX.p rfl rfl ?_
          refine v_getr aX7_span_60 fX7_195 hX.spans.p rfl rfl ?_
          refine v_iload_n aX7_span_63 rfl ?_
          refine v_iald aX7_span_64 hX.spans.p_high (by omega) (by decide) ?_
          refine v_ireturn aX7_span_65 rfl ⟨Nat.le_refl _, Nat.le_refl _⟩ ?_
          obtain ⟨r, r1, r2⟩ : ∃ r, SpA t r ∧ Eq6p (μ' (x + 26 + 1), μ' (x + 26 + 2)) (spX t r) := hz.elim (fun y => y.2) (fun y => absurd y.1 c34)
          exact ⟨_, rfl, rfl, ⟨fun _ _ => Or.inl ⟨r, r1, by rw [if_neg c41]; exact r2.2 s (by omega) (by omega)⟩, fun _ q => absurd q (by omega), fun q => absurd q (by omega)⟩, hL, hO⟩
        · --
          refine v_aload_n aX7_span_44 rfl ?_
          refine v_getr aX7_span_45 fX7_37 hX.p rfl rfl ?_
          refine v_getr aX7_span_48 fX7_192 hX.spans.p rfl rfl ?_
          refine v_iload_n aX7_span_51 rfl ?_
          refine v_iald aX7_span_52 hX.spans.p_low (by omega) (by decide) ?_
          refine v_goto 65 rfl aX7_span_53 ?_
          refine v_ireturn aX7_span_65 rfl ⟨Nat.le_refl _, Nat.le_refl _⟩ ?_
          obtain ⟨r, r1, r2⟩ : ∃ r, SpA t r ∧ Eq6p (μ' (x + 26 + 1), μ' (x + 26 + 2)) (spX t r) := hz.elim (fun y => y.2) (fun y => absurd y.1 c34)
          exact ⟨_, rfl, rfl, ⟨fun _ _ => Or.inl ⟨r, r1, by rw [if_pos c41]; exact r2.1 s (by omega) (by omega)⟩, fun _ q => absurd q (by omega), fun q => absurd q (by omega)⟩, hL, hO⟩
      · --
        refine v_bipush (by decide) aX7_span_37 ?_
        refine v_ireturn aX7_span_39 rfl ⟨Nat.le_refl _, Nat.le_refl _⟩ ?_
        exact ⟨_, rfl, rfl, ⟨fun _ _ => Or.inr ⟨hz.elim (fun y => absurd y.1 (by omega)) (fun y => y.2), rfl⟩, fun _ q => absurd q (by omega), fun q => absurd q (by omega)⟩, hL, hO⟩
    · --
      refine v_bipush (by decide) aX7_span_20 ?_
      refine v_ireturn aX7_span_22 rfl ⟨Nat.le_refl _, Nat.le_refl _⟩ ?_
      exact ⟨_, rfl, rfl, ⟨fun _ q => absurd q (by omega), fun _ _ => rfl, fun q => absurd q (by omega)⟩, h, Out.rf⟩
  · --
    refine v_iconst aX7_span_11 ?_
    refine v_ireturn aX7_span_12 rfl ⟨Nat.le_refl _, Nat.le_refl _⟩ ?_
    exact ⟨_, rfl, rfl, ⟨fun q => absurd q (by omega), fun q => absurd q (by omega), fun _ => rfl⟩, h, Out.rf⟩
end SPL
