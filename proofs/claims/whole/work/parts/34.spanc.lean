/-! spans: the class -/
theorem stf_fst : ∀ (es : List Edg) (Y : Spn × Int), (es.foldl stf Y).1 = rd es Y.1
  | [], _ => rfl
  | e :: es, Y => stf_fst es (stf Y e)
theorem bnd_rd : ∀ (es : List Edg) (m : Int) (X : Spn), Bnd m X → InE es → Bnd (m + es.length) (rd es X)
  | [], m, X, h, _ => by rw [show m + (([] : List Edg).length : Int) = m from Int.add_zero m]; exact h
  | e :: es, m, X, h, hin => by
    have := bnd_rd es (m + 1) (stp X e) (bnd_stp h (hin e (List.mem_cons_self ..))) (fun e' h' => hin e' (List.mem_cons_of_mem _ h'))
    rw [show m + ((e :: es).length : Int) = m + 1 + (es.length : Int) by rw [List.length_cons]; omega]
    exact this
theorem Bnd.mono {m m' : Int} {X : Spn} (h : Bnd m X) (e : m ≤ m') : Bnd m' X := fun v v0 v1 => by have := h v v0 v1; omega
theorem Bnd.eq {m : Int} {X Y : Spn} (h : Bnd m X) (e : Eq6p Y X) : Bnd m Y := fun v v0 v1 => by rw [e.1 v v0 v1, e.2 v v0 v1]; exact h v v0 v1
theorem len_edgS {a b c d e f : Int} : (edgS a b c d e f).length ≤ 2 := by
  unfold edgS
  rw [List.length_append]
  have h1 : (if c = 2 then ([] : List Edg) else [(a, b, (if c = 0 then 0 else 1) - f * e)]).length ≤ 1 := by by_cases q : c = 2 <;> simp [q]
  have h2 : (if c = 1 then ([] : List Edg) else [(b, a, (if c = 0 then 0 else 1) - f * d)]).length ≤ 1 := by by_cases q : c = 1 <;> simp [q]
  omega
theorem len_edsS {t : BSt} : ∀ k : Nat, (edsS t k).length ≤ 2 * k
  | 0 => Nat.le_refl _
  | k + 1 => by
    have := len_edsS (t := t) k
    have h2 := len_edgS (a := t.2.2.2.1 (5 * (k : Int))) (b := t.2.2.2.1 (5 * (k : Int) + 1)) (c := t.2.2.2.1 (5 * (k : Int) + 2)) (d := t.2.2.2.1 (5 * (k : Int) + 3)) (e := t.2.2.2.1 (5 * (k : Int) + 4)) (f := t.2.2.1)
    show (edsS t k ++ _).length ≤ _
    rw [List.length_append]
    omega
def Tr (μ : Mu) (b : Nat) : Spn × Int := ((μ (b + 1), μ (b + 2)), μ b 2)
theorem spX_bnd {t : BSt} {B : Int} (hok : StOk t B) (hB : B ≤ 100000) : ∀ r : Nat, Bnd (24 * r) (spX t r)
  | 0 => fun v v0 v1 => by
    have := (hok.2.2.2.2 v v0 v1).2.1
    show (0 ≤ t.2.2.2.2.2.1 v ∧ t.2.2.2.2.2.1 v ≤ 999 + 24 * ((0 : Nat) : Int)) ∧ -(24 * ((0 : Nat) : Int)) ≤ t.2.2.2.2.2.2.1 v ∧ t.2.2.2.2.2.2.1 v ≤ 999
    omega
  | r + 1 => by
    have h := bnd_rd (edsS t t.2.1.toNat) _ _ (spX_bnd hok hB r) (edsS_in hok hB _ (by have := hok.2.1; omega))
    have h2 := len_edsS (t := t) t.2.1.toNat
    have := hok.2.1
    have h3 : (24 * (r : Int) + ((edsS t t.2.1.toNat).length : Int)) ≤ 24 * ((r + 1 : Nat) : Int) := by omega
    exact h.mono h3
section SPC
variable {l : Launch} {G : Glb} {S : Sh} {μ : Mu} {b k : Nat} {t : BSt} {B : Int}
set_option maxHeartbeats 4000000 in
set_option maxRecDepth 100000 in
theorem l2_X5_keepAbove {h lt w : Int} {P : Pst} (hP : SpnS S b) (hh : 0 ≤ h ∧ h < 6) (hl : 0 ≤ lt ∧ lt < 6) (hw : w ≤ 1 ∧ -4000000 ≤ w) (hx : ∀ v : Int, 0 ≤ v → v < 6 → -100000 ≤ μ (b + 2) v ∧ μ (b + 2) v ≤ 100000) (hp : ∀ μ' : Mu, μ' (b + 1) = μ (b + 1) → μ' (b + 2) = kaH (μ (b + 2)) h lt w → μ' b 2 = (if μ (b + 2) h - w < μ (b + 2) lt then 1 else μ b 2) → (∀ q : Nat, q ≠ b → q ≠ b + 1 → q ≠ b + 2 → μ' q = μ q) → P none S μ') : V l G cX5_keepAbove (yX5_keepAbove, 4, none, 0, 0, 0) P (0, 0) S μ 36 [.ref b, vi h, vi lt, vi w] [] := by
  have h1 := hx h hh.1 hh.2
  have h2 := hx lt hl.1 hl.2
  refine v_aload_n aX5_keepAbove_36 rfl ?_
  refine v_getr aX5_keepAbove_37 fX5_15 hP.p rfl rfl ?_
  refine v_iload_n aX5_keepAbove_40 rfl ?_
  refine v_iald aX5_keepAbove_41 hP.p_high (by omega) (by decide) ?_
  refine v_aload_n aX5_keepAbove_42 rfl ?_
  refine v_getr aX5_keepAbove_43 fX5_15 hP.p rfl rfl ?_
  refine v_iload_n aX5_keepAbove_46 rfl ?_
  refine v_iald aX5_keepAbove_47 hP.p_high (by omega) (by decide) ?_
  refine v_iload_n aX5_keepAbove_48 rfl ?_
  refine v_isub aX5_keepAbove_49 ?_
  refine v_icmp_le 72 rfl aX5_keepAbove_50 (by omega) (by omega) (fun c50 => ?_) (fun c50 => ?_)
  · --
    refine v_return aX5_keepAbove_72 rfl ⟨Nat.le_refl _, Nat.le_refl _⟩ ?_
    refine hp _ rfl ?_ ?_ (fun q q0 q1 q2 => rfl)
    · unfold kaH; rw [if_neg (by omega)]
    · rw [if_neg (by omega)]
  · --
    refine v_aload_n aX5_keepAbove_53 rfl ?_
    refine v_getr aX5_keepAbove_54 fX5_15 hP.p rfl rfl ?_
    refine v_iload_n aX5_keepAbove_57 rfl ?_
    refine v_aload_n aX5_keepAbove_58 rfl ?_
    refine v_getr aX5_keepAbove_59 fX5_15 hP.p rfl rfl ?_
    refine v_iload_n aX5_keepAbove_62 rfl ?_
    refine v_iald aX5_keepAbove_63 hP.p_high (by omega) (by decide) ?_
    refine v_iload_n aX5_keepAbove_64 rfl ?_
    refine v_isub aX5_keepAbove_65 ?_
    refine v_iast aX5_keepAbove_66 hP.p_high (by omega) (by decide) ?_
    refine v_aload_n aX5_keepAbove_67 rfl ?_
    refine v_iconst aX5_keepAbove_68 ?_
    refine v_pi 2 rfl aX5_keepAbove_69 fX5_32 nf5_2 (ok5_2 (by first | exact Or.inl rfl | exact Or.inr rfl | exact b2i_01 | omega)) hP.p rfl rfl ?_
    refine v_return aX5_keepAbove_72 rfl ⟨Nat.le_refl _, Nat.le_refl _⟩ ?_
    refine hp _ ?_ ?_ ?_ (fun q q0 q1 q2 => ?_)
    · rw [upd2_row (by omega), upd2_row (by omega)]
    · unfold kaH; rw [if_pos (by omega), upd2_row (by omega), upd2_iup, row_same]
    · rw [if_pos (by omega), upd2_same]
    · rw [upd2_row q0, upd2_row q2]
set_option maxHeartbeats 4000000 in
set_option maxRecDepth 100000 in
theorem c_X5_keepAbove {h lt w : Int} (hP : SpnS S b) (hh : 0 ≤ h ∧ h < 6) (hl : 0 ≤ lt ∧ lt < 6) (hw : w ≤ 1 ∧ -4000000 ≤ w) (hx : ∀ v : Int, 0 ≤ v → v < 6 → (-100000 ≤ μ (b + 1) v ∧ μ (b + 1) v ≤ 100000) ∧ (-100000 ≤ μ (b + 2) v ∧ μ (b + 2) v ≤ 100000)) : Ct l G cX5_keepAbove (yX5_keepAbove, 4, none, 0, 0, 0) [.ref b, vi h, vi lt, vi w] S μ (Rw S (fun μ' => Tr μ' b = stf (Tr μ b) (h, lt, w) ∧ (∀ q : Nat, q ≠ b → q ≠ b + 1 → q ≠ b + 2 → μ' q = μ q))) := by
  have h1 := hx h hh.1 hh.2
  have h2 := hx lt hl.1 hl.2
  refine Ct.of (by decide) rfl (by simp [vi, Value.category]) (Nat.le_of_ble_eq_true rfl) ?_
  refine v_aload_n aX5_keepAbove_0 rfl ?_
  refine v_getr aX5_keepAbove_1 fX5_9 hP.p rfl rfl ?_
  refine v_iload_n aX5_keepAbove_4 rfl ?_
  refine v_iald aX5_keepAbove_5 hP.p_low (by omega) (by decide) ?_
  refine v_aload_n aX5_keepAbove_6 rfl ?_
  refine v_getr aX5_keepAbove_7 fX5_9 hP.p rfl rfl ?_
  refine v_iload_n aX5_keepAbove_10 rfl ?_
  refine v_iald aX5_keepAbove_11 hP.p_low (by omega) (by decide) ?_
  refine v_iload_n aX5_keepAbove_12 rfl ?_
  refine v_iadd aX5_keepAbove_13 ?_
  refine v_icmp_ge 36 rfl aX5_keepAbove_14 (by omega) (by omega) (fun c14 => ?_) (fun c14 => ?_)
  · --
    refine l2_X5_keepAbove hP hh hl hw (fun v v0 v1 => (hx v v0 v1).2) (fun μ' e1 e2 e3 e4 => ⟨rfl, rfl, ?_, fun q q0 q1 q2 => e4 q q0 q1 q2⟩)
    unfold Tr stf stp
    rw [e1, e2, e3]
    dsimp only
    unfold kaL
    rw [if_neg (show ¬ μ (b + 1) h < μ (b + 1) lt + w by omega), if_neg (show ¬ μ (b + 1) h < μ (b + 1) lt + w by omega)]
  · --
    refine v_aload_n aX5_keepAbove_17 rfl ?_
    refine v_getr aX5_keepAbove_18 fX5_9 hP.p rfl rfl ?_
    refine v_iload_n aX5_keepAbove_21 rfl ?_
    refine v_aload_n aX5_keepAbove_22 rfl ?_
    refine v_getr aX5_keepAbove_23 fX5_9 hP.p rfl rfl ?_
    refine v_iload_n aX5_keepAbove_26 rfl ?_
    refine v_iald aX5_keepAbove_27 hP.p_low (by omega) (by decide) ?_
    refine v_iload_n aX5_keepAbove_28 rfl ?_
    refine v_iadd aX5_keepAbove_29 ?_
    refine v_iast aX5_keepAbove_30 hP.p_low (by omega) (by decide) ?_
    refine v_aload_n aX5_keepAbove_31 rfl ?_
    refine v_iconst aX5_keepAbove_32 ?_
    refine v_pi 2 rfl aX5_keepAbove_33 fX5_32 nf5_2 (ok5_2 (by first | exact Or.inl rfl | exact Or.inr rfl | exact b2i_01 | omega)) hP.p rfl rfl ?_
    refine l2_X5_keepAbove hP hh hl hw (fun v v0 v1 => by rw [upd2_row (by omega), upd2_row (by omega)]; exact (hx v v0 v1).2) (fun μ' e1 e2 e3 e4 => ⟨rfl, rfl, ?_, fun q q0 q1 q2 => (e4 q q0 q1 q2).trans ((upd2_row q0).trans (upd2_row q1))⟩)
    unfold Tr stf stp
    rw [e1, e2, e3]
    dsimp only
    rw [upd2_row (show b + 2 ≠ b by omega), upd2_row (show b + 2 ≠ b + 1 by omega), upd2_same, upd2_row (show b + 1 ≠ b by omega), upd2_iup, row_same]
    unfold kaL
    rw [if_pos (show μ (b + 1) h < μ (b + 1) lt + w by omega), if_pos (show μ (b + 1) h < μ (b + 1) lt + w by omega), ite_self]
set_option maxHeartbeats 4000000 in
set_option maxRecDepth 100000 in
theorem ck_X5_keepAbove {h lt w m : Int} (hP : SpnS S b) (hh : 0 ≤ h ∧ h < 6) (hl : 0 ≤ lt ∧ lt < 6) (hw : w ≤ 1 ∧ -4000000 ≤ w) (hb : Bnd m (Tr μ b).1) (hm : 0 ≤ m ∧ m ≤ 2000) : Ct l G cX5_keepAbove (yX5_keepAbove, 4, none, 0, 0, 0) [.ref b, vi h, vi lt, vi w] S μ (Rw S (fun μ' => Tr μ' b = stf (Tr μ b) (h, lt, w) ∧ Bnd (m + 1) (Tr μ' b).1 ∧ (∀ q : Nat, q ≠ b → q ≠ b + 1 → q ≠ b + 2 → μ' q = μ q))) := by
  refine (c_X5_keepAbove hP hh hl hw (fun v v0 v1 => ?_)).mono ?_
  · have := hb v v0 v1
    unfold Tr at this
    dsimp only at this
    omega
  · rintro r S1 μ1 ⟨h1, h2, h3, h4⟩
    refine ⟨h1, h2, h3, ?_, h4⟩
    rw [h3]
    exact bnd_stp hb ⟨hh, hl, hw⟩
set_option maxHeartbeats 4000000 in
set_option maxRecDepth 100000 in
theorem c_X5_hear {q : Nat} {ls : Int} (hP : SpnS S b) (hq : S.2 q = some (aI 5)) (q0 : q ≠ b) (q1 : q ≠ b + 1) (q2 : q ≠ b + 2) (h0 : 0 ≤ μ q 0 ∧ μ q 0 < 6) (h1 : 0 ≤ μ q 1 ∧ μ q 1 < 6) (h3 : 0 ≤ μ q 3 ∧ μ q 3 ≤ 100000) (h4 : 0 ≤ μ q 4 ∧ μ q 4 ≤ 100000) (h2 : 0 ≤ μ q 2 ∧ μ q 2 ≤ 2) (hl : 0 ≤ ls ∧ ls ≤ 20) {m : Int} (hb : Bnd m (Tr μ b).1) (hm : 0 ≤ m ∧ m ≤ 1000) : Ct l G cX5_hear (yX5_hear, 6, none, 1, 0, 0) [.ref b, .ref q, vi ls] S μ (Rw S (fun μ' => Tr μ' b = (edgS (μ q 0) (μ q 1) (μ q 2) (μ q 3) (μ q 4) ls).foldl stf (Tr μ b) ∧ (∀ q : Nat, q ≠ b → q ≠ b + 1 → q ≠ b + 2 → μ' q = μ q))) := by
  have m3 : 0 ≤ ls * μ q 3 ∧ ls * μ q 3 ≤ 20 * μ q 3 := ⟨Int.mul_nonneg hl.1 h3.1, Int.mul_le_mul_of_nonneg_right hl.2 h3.1⟩
  have m4 : 0 ≤ ls * μ q 4 ∧ ls * μ q 4 ≤ 20 * μ q 4 := ⟨Int.mul_nonneg hl.1 h4.1, Int.mul_le_mul_of_nonneg_right hl.2 h4.1⟩
  refine Ct.of (by decide) rfl (by simp [vi, Value.category]) (Nat.le_of_ble_eq_true rfl) ?_
  refine v_aload_n aX5_hear_0 rfl ?_
  refine v_iconst aX5_hear_1 ?_
  refine v_iald aX5_hear_2 hq (by omega) (by decide) ?_
  refine v_istore_n aX5_hear_3 (by decide) rfl ?_
  refine v_aload_n aX5_hear_4 rfl ?_
  refine v_iconst aX5_hear_5 ?_
  refine v_iald aX5_hear_6 hq (by omega) (by decide) ?_
  refine v_istore aX5_hear_7 (by decide) rfl ?_
  refine v_aload_n aX5_hear_9 rfl ?_
  refine v_iconst aX5_hear_10 ?_
  refine v_iald aX5_hear_11 hq (by omega) (by decide) ?_
  refine v_if_ne 19 rfl aX5_hear_12 (by omega) (fun c12 => ?_) (fun c12 => ?_)
  · --
    refine v_iconst aX5_hear_19 ?_
    refine v_istore aX5_hear_20 (by decide) rfl ?_
    refine v_aload_n aX5_hear_22 rfl ?_
    refine v_iconst aX5_hear_23 ?_
    refine v_iald aX5_hear_24 hq (by omega) (by decide) ?_
    refine v_iconst aX5_hear_25 ?_
    refine v_icmp_eq 44 rfl aX5_hear_26 (by omega) (by omega) (fun c26 => ?_) (fun c26 => ?_)
    · --
      refine v_aload_n aX5_hear_44 rfl ?_
      refine v_iconst aX5_hear_45 ?_
      refine v_iald aX5_hear_46 hq (by omega) (by decide) ?_
      try rw [k2 q q0 q1 q2]
      refine v_iconst aX5_hear_47 ?_
      refine v_icmp_eq 66 rfl aX5_hear_48 (by omega) (by omega) (fun c48 => ?_) (fun c48 => ?_)
      · --
        refine v_return aX5_hear_66 rfl ⟨Nat.le_refl _, Nat.le_refl _⟩ ?_
        first
          | (exfalso; omega)
          | (refine ⟨rfl, rfl, ?_, k2⟩
             rw [k1]
             unfold edgS
             first
               | (rw [if_neg c26, if_pos c48, if_pos c12]; rfl)
               | (rw [if_neg c26, if_pos c48, if_neg c12]; rfl))
      · --
        first
          | have hbx := k3
          | have hbx := hb.mono (m' := m + 1) (by omega)
        refine v_aload_n aX5_hear_51 rfl ?_
        refine v_iload aX5_hear_52 rfl ?_
        refine v_iload_n aX5_hear_54 rfl ?_
        refine v_iload aX5_hear_55 rfl ?_
        refine v_iload_n aX5_hear_57 rfl ?_
        refine v_aload_n aX5_hear_58 rfl ?_
        refine v_iconst aX5_hear_59 ?_
        refine v_iald aX5_hear_60 hq (by omega) (by decide) ?_
        try rw [k2 q q0 q1 q2]
        refine v_imul aX5_hear_61 ?_
        refine v_isub aX5_hear_62 ?_
        refine v_cVw (ck_X5_keepAbove hP (by omega) (by omega) (by omega) hbx (by omega)) aX5_hear_63 mX5_keepAbove vX5_keepAbove lX5_58 hP.p rfl rfl rfl rfl rfl (Nat.le_of_ble_eq_true rfl) ⟨Nat.le_of_ble_eq_true rfl, Nat.le_of_ble_eq_true rfl⟩ (Nat.le_of_ble_eq_true rfl) (fun μ2 ⟨j1, j3, j2⟩ => ?_)
        refine v_return aX5_hear_66 rfl ⟨Nat.le_refl _, Nat.le_refl _⟩ ?_
        first
          | (refine ⟨rfl, rfl, ?_, fun p p0 p1 p2 => (j2 p p0 p1 p2).trans (k2 p p0 p1 p2)⟩
             rw [j1, k1]
             unfold edgS
             first
               | (rw [if_neg c26, if_neg c48, if_pos c12]; rfl)
               | (rw [if_neg c26, if_neg c48, if_neg c12]; rfl))
          | (refine ⟨rfl, rfl, ?_, j2⟩
             rw [j1]
             unfold edgS
             first
               | (rw [if_pos c26, if_neg c48, if_pos c12]; rfl)
               | (rw [if_pos c26, if_neg c48, if_neg c12]; rfl))
    · --
      refine v_aload_n aX5_hear_29 rfl ?_
      refine v_iload_n aX5_hear_30 rfl ?_
      refine v_iload aX5_hear_31 rfl ?_
      refine v_iload aX5_hear_33 rfl ?_
      refine v_iload_n aX5_hear_35 rfl ?_
      refine v_aload_n aX5_hear_36 rfl ?_
      refine v_iconst aX5_hear_37 ?_
      refine v_iald aX5_hear_38 hq (by omega) (by decide) ?_
      refine v_imul aX5_hear_39 ?_
      refine v_isub aX5_hear_40 ?_
      refine v_cVw (ck_X5_keepAbove hP h0 h1 (by omega) hb (by omega)) aX5_hear_41 mX5_keepAbove vX5_keepAbove lX5_58 hP.p rfl rfl rfl rfl rfl (Nat.le_of_ble_eq_true rfl) ⟨Nat.le_of_ble_eq_true rfl, Nat.le_of_ble_eq_true rfl⟩ (Nat.le_of_ble_eq_true rfl) (fun μ1 ⟨k1, k3, k2⟩ => ?_)
      refine v_aload_n aX5_hear_44 rfl ?_
      refine v_iconst aX5_hear_45 ?_
      refine v_iald aX5_hear_46 hq (by omega) (by decide) ?_
      try rw [k2 q q0 q1 q2]
      refine v_iconst aX5_hear_47 ?_
      refine v_icmp_eq 66 rfl aX5_hear_48 (by omega) (by omega) (fun c48 => ?_) (fun c48 => ?_)
      · --
        refine v_return aX5_hear_66 rfl ⟨Nat.le_refl _, Nat.le_refl _⟩ ?_
        first
          | (exfalso; omega)
          | (refine ⟨rfl, rfl, ?_, k2⟩
             rw [k1]
             unfold edgS
             first
               | (rw [if_neg c26, if_pos c48, if_pos c12]; rfl)
               | (rw [if_neg c26, if_pos c48, if_neg c12]; rfl))
      · --
        first
          | have hbx := k3
          | have hbx := hb.mono (m' := m + 1) (by omega)
        refine v_aload_n aX5_hear_51 rfl ?_
        refine v_iload aX5_hear_52 rfl ?_
        refine v_iload_n aX5_hear_54 rfl ?_
        refine v_iload aX5_hear_55 rfl ?_
        refine v_iload_n aX5_hear_57 rfl ?_
        refine v_aload_n aX5_hear_58 rfl ?_
        refine v_iconst aX5_hear_59 ?_
        refine v_iald aX5_hear_60 hq (by omega) (by decide) ?_
        try rw [k2 q q0 q1 q2]
        refine v_imul aX5_hear_61 ?_
        refine v_isub aX5_hear_62 ?_
        refine v_cVw (ck_X5_keepAbove hP (by omega) (by omega) (by omega) hbx (by omega)) aX5_hear_63 mX5_keepAbove vX5_keepAbove lX5_58 hP.p rfl rfl rfl rfl rfl (Nat.le_of_ble_eq_true rfl) ⟨Nat.le_of_ble_eq_true rfl, Nat.le_of_ble_eq_true rfl⟩ (Nat.le_of_ble_eq_true rfl) (fun μ2 ⟨j1, j3, j2⟩ => ?_)
        refine v_return aX5_hear_66 rfl ⟨Nat.le_refl _, Nat.le_refl _⟩ ?_
        first
          | (refine ⟨rfl, rfl, ?_, fun p p0 p1 p2 => (j2 p p0 p1 p2).trans (k2 p p0 p1 p2)⟩
             rw [j1, k1]
             unfold edgS
             first
               | (rw [if_neg c26, if_neg c48, if_pos c12]; rfl)
               | (rw [if_neg c26, if_neg c48, if_neg c12]; rfl))
          | (refine ⟨rfl, rfl, ?_, j2⟩
             rw [j1]
             unfold edgS
             first
               | (rw [if_pos c26, if_neg c48, if_pos c12]; rfl)
               | (rw [if_pos c26, if_neg c48, if_neg c12]; rfl))
  · --
    refine v_iconst aX5_hear_15 ?_
    refine v_goto 20 rfl aX5_hear_16 ?_
    refine v_istore aX5_hear_20 (by decide) rfl ?_
    refine v_aload_n aX5_hear_22 rfl ?_
    refine v_iconst aX5_hear_23 ?_
    refine v_iald aX5_hear_24 hq (by omega) (by decide) ?_
    refine v_iconst aX5_hear_25 ?_
    refine v_icmp_eq 44 rfl aX5_hear_26 (by omega) (by omega) (fun c26 => ?_) (fun c26 => ?_)
    · --
      refine v_aload_n aX5_hear_44 rfl ?_
      refine v_iconst aX5_hear_45 ?_
      refine v_iald aX5_hear_46 hq (by omega) (by decide) ?_
      try rw [k2 q q0 q1 q2]
      refine v_iconst aX5_hear_47 ?_
      refine v_icmp_eq 66 rfl aX5_hear_48 (by omega) (by omega) (fun c48 => ?_) (fun c48 => ?_)
      · --
        refine v_return aX5_hear_66 rfl ⟨Nat.le_refl _, Nat.le_refl _⟩ ?_
        first
          | (exfalso; omega)
          | (refine ⟨rfl, rfl, ?_, k2⟩
             rw [k1]
             unfold edgS
             first
               | (rw [if_neg c26, if_pos c48, if_pos c12]; rfl)
               | (rw [if_neg c26, if_pos c48, if_neg c12]; rfl))
      · --
        first
          | have hbx := k3
          | have hbx := hb.mono (m' := m + 1) (by omega)
        refine v_aload_n aX5_hear_51 rfl ?_
        refine v_iload aX5_hear_52 rfl ?_
        refine v_iload_n aX5_hear_54 rfl ?_
        refine v_iload aX5_hear_55 rfl ?_
        refine v_iload_n aX5_hear_57 rfl ?_
        refine v_aload_n aX5_hear_58 rfl ?_
        refine v_iconst aX5_hear_59 ?_
        refine v_iald aX5_hear_60 hq (by omega) (by decide) ?_
        try rw [k2 q q0 q1 q2]
        refine v_imul aX5_hear_61 ?_
        refine v_isub aX5_hear_62 ?_
        refine v_cVw (ck_X5_keepAbove hP (by omega) (by omega) (by omega) hbx (by omega)) aX5_hear_63 mX5_keepAbove vX5_keepAbove lX5_58 hP.p rfl rfl rfl rfl rfl (Nat.le_of_ble_eq_true rfl) ⟨Nat.le_of_ble_eq_true rfl, Nat.le_of_ble_eq_true rfl⟩ (Nat.le_of_ble_eq_true rfl) (fun μ2 ⟨j1, j3, j2⟩ => ?_)
        refine v_return aX5_hear_66 rfl ⟨Nat.le_refl _, Nat.le_refl _⟩ ?_
        first
          | (refine ⟨rfl, rfl, ?_, fun p p0 p1 p2 => (j2 p p0 p1 p2).trans (k2 p p0 p1 p2)⟩
             rw [j1, k1]
             unfold edgS
             first
               | (rw [if_neg c26, if_neg c48, if_pos c12]; rfl)
               | (rw [if_neg c26, if_neg c48, if_neg c12]; rfl))
          | (refine ⟨rfl, rfl, ?_, j2⟩
             rw [j1]
             unfold edgS
             first
               | (rw [if_pos c26, if_neg c48, if_pos c12]; rfl)
               | (rw [if_pos c26, if_neg c48, if_neg c12]; rfl))
    · --
      refine v_aload_n aX5_hear_29 rfl ?_
      refine v_iload_n aX5_hear_30 rfl ?_
      refine v_iload aX5_hear_31 rfl ?_
      refine v_iload aX5_hear_33 rfl ?_
      refine v_iload_n aX5_hear_35 rfl ?_
      refine v_aload_n aX5_hear_36 rfl ?_
      refine v_iconst aX5_hear_37 ?_
      refine v_iald aX5_hear_38 hq (by omega) (by decide) ?_
      refine v_imul aX5_hear_39 ?_
      refine v_isub aX5_hear_40 ?_
      refine v_cVw (ck_X5_keepAbove hP h0 h1 (by omega) hb (by omega)) aX5_hear_41 mX5_keepAbove vX5_keepAbove lX5_58 hP.p rfl rfl rfl rfl rfl (Nat.le_of_ble_eq_true rfl) ⟨Nat.le_of_ble_eq_true rfl, Nat.le_of_ble_eq_true rfl⟩ (Nat.le_of_ble_eq_true rfl) (fun μ1 ⟨k1, k3, k2⟩ => ?_)
      refine v_aload_n aX5_hear_44 rfl ?_
      refine v_iconst aX5_hear_45 ?_
      refine v_iald aX5_hear_46 hq (by omega) (by decide) ?_
      try rw [k2 q q0 q1 q2]
      refine v_iconst aX5_hear_47 ?_
      refine v_icmp_eq 66 rfl aX5_hear_48 (by omega) (by omega) (fun c48 => ?_) (fun c48 => ?_)
      · --
        refine v_return aX5_hear_66 rfl ⟨Nat.le_refl _, Nat.le_refl _⟩ ?_
        first
          | (exfalso; omega)
          | (refine ⟨rfl, rfl, ?_, k2⟩
             rw [k1]
             unfold edgS
             first
               | (rw [if_neg c26, if_pos c48, if_pos c12]; rfl)
               | (rw [if_neg c26, if_pos c48, if_neg c12]; rfl))
      · --
        first
          | have hbx := k3
          | have hbx := hb.mono (m' := m + 1) (by omega)
        refine v_aload_n aX5_hear_51 rfl ?_
        refine v_iload aX5_hear_52 rfl ?_
        refine v_iload_n aX5_hear_54 rfl ?_
        refine v_iload aX5_hear_55 rfl ?_
        refine v_iload_n aX5_hear_57 rfl ?_
        refine v_aload_n aX5_hear_58 rfl ?_
        refine v_iconst aX5_hear_59 ?_
        refine v_iald aX5_hear_60 hq (by omega) (by decide) ?_
        try rw [k2 q q0 q1 q2]
        refine v_imul aX5_hear_61 ?_
        refine v_isub aX5_hear_62 ?_
        refine v_cVw (ck_X5_keepAbove hP (by omega) (by omega) (by omega) hbx (by omega)) aX5_hear_63 mX5_keepAbove vX5_keepAbove lX5_58 hP.p rfl rfl rfl rfl rfl (Nat.le_of_ble_eq_true rfl) ⟨Nat.le_of_ble_eq_true rfl, Nat.le_of_ble_eq_true rfl⟩ (Nat.le_of_ble_eq_true rfl) (fun μ2 ⟨j1, j3, j2⟩ => ?_)
        refine v_return aX5_hear_66 rfl ⟨Nat.le_refl _, Nat.le_refl _⟩ ?_
        first
          | (refine ⟨rfl, rfl, ?_, fun p p0 p1 p2 => (j2 p p0 p1 p2).trans (k2 p p0 p1 p2)⟩
             rw [j1, k1]
             unfold edgS
             first
               | (rw [if_neg c26, if_neg c48, if_pos c12]; rfl)
               | (rw [if_neg c26, if_neg c48, if_neg c12]; rfl))
          | (refine ⟨rfl, rfl, ?_, j2⟩
             rw [j1]
             unfold edgS
             first
               | (rw [if_pos c26, if_neg c48, if_pos c12]; rfl)
               | (rw [if_pos c26, if_neg c48, if_neg c12]; rfl))
end SPC
