/-! the book of the class: a line is written, a book is copied, a new book -/
theorem icp6 {f g : Int → Int} : Eq6 (icp f g 0 0 6) f := fun i h0 h6 => by unfold icp; rw [if_pos (by omega)]; exact congrArg f (by omega)
theorem ladd_eq {K L L' : Int → Int} {c s p h z : Int} (hL : Eq6 L L') (hs : 0 ≤ s ∧ s < 6) (hp : 0 ≤ p ∧ p < 6) : ladd K L c s p h z = ladd K L' c s p h z := by
  unfold ladd
  rw [hL s hs.1 hs.2, hL p hp.1 hp.2]
theorem iup_eq6 {L L' : Int → Int} {s x y : Int} (hL : Eq6 L L') (e : x = y) : Eq6 (iup L s x) (iup L' s y) := fun i h0 h6 => by
  unfold iup
  by_cases h : i = s
  · rw [if_pos h, if_pos h, e]
  · rw [if_neg h, if_neg h]; exact hL i h0 h6
section BOOK2
variable {l : Launch} {G : Glb} {S : Sh} {μ : Mu} {b : Nat}
/-- a line on the pad that can be written: the signs g, n of them -/
def LineOk (g : Int → Int) (n : Int) : Prop := (1 ≤ n ∧ n ≤ 40 ∧ n % 2 = 1) ∧ (∀ i : Int, 0 ≤ i → i < n → i % 2 = 0 → 97 ≤ g i ∧ g i < 103) ∧ ∀ i : Int, 0 ≤ i → i < 40 → -1000 ≤ g i ∧ g i ≤ 1000
/-- the book at b after a part of a line: sayings, lifts, count -/
def WIn (μ0 μ : Mu) (b : Nat) (t : LSt) : Prop := (∀ i : Nat, i < 12 → ∀ j : Int, 0 ≤ j → j < 5 → μ (b + 2 + i) j = t.1 (5 * i + j)) ∧ Eq6 (μ (b + 14)) t.2.1 ∧ μ b = iup (μ0 b) 7 t.2.2 ∧ ∀ q : Nat, q ≠ b → (q < b + 2 ∨ b + 15 ≤ q) → μ q = μ0 q
set_option maxHeartbeats 4000000 in
set_option maxRecDepth 100000 in
theorem l_X0_write {P : Pst} {p : Nat} {μ0 : Mu} (hB : BookS S b) (hP : PadS S p) (hd : p + 2 ≤ b ∨ b + 19 ≤ p) (hg : LineOk (μ0 (p + 1)) (μ0 p 1)) : ∀ (m : Nat) (i : Int) (μ : Mu) (t : LSt), (2 ≤ i ∧ i ≤ μ0 p 1 + 1 ∧ i % 2 = 0) → μ0 p 1 - i < m → (0 ≤ t.2.2 ∧ t.2.2 + (μ0 p 1 - i + 1) / 2 ≤ 12) → WIn μ0 μ b t → (∀ μ, WIn μ0 μ b (lnd (μ0 (p + 1)) (μ0 p 1) m i t) → P none S μ) → ∀ s : Int, V l G cX0_write (yX0_write, 4, none, 1, 0, 0) P (0, 0) S μ 2 [.ref b, .ref p, vi i, vi s] [] := by
  intro m
  induction m with
  | zero =>
    intro i μ t h0 h1 hc hw hh s
    obtain ⟨w1, w2, w3, w4⟩ := hw
    obtain ⟨⟨g1, g2, g3⟩, g4, g5⟩ := id hg
    have hpd : μ (p + 1) = μ0 (p + 1) := w4 _ (by omega) (by omega)
    have hpz : μ p = μ0 p := w4 _ (by omega) (by omega)
    have hb7 : μ b 7 = t.2.2 := by rw [w3, iup_same]
    refine v_iload_n aX0_write_2 rfl ?_
    refine v_aload_n aX0_write_3 rfl ?_
    refine v_gi 1 rfl aX0_write_4 fX0_43 hP.p rfl rfl ?_
    rw [hpz]
    refine v_icmp_ge 56 rfl aX0_write_7 (by omega) (by omega) (fun c7 => ?_) (fun c7 => ?_)
    · --
      refine v_return aX0_write_56 rfl ⟨Nat.le_refl _, Nat.le_refl _⟩ ?_
      exact hh μ ⟨w1, w2, w3, w4⟩
    · exact absurd (by omega) c7
  | succ m ih =>
    intro i μ t h0 h1 hc hw hh s
    unfold lnd at hh
    obtain ⟨w1, w2, w3, w4⟩ := hw
    obtain ⟨⟨g1, g2, g3⟩, g4, g5⟩ := id hg
    have hpd : μ (p + 1) = μ0 (p + 1) := w4 _ (by omega) (by omega)
    have hpz : μ p = μ0 p := w4 _ (by omega) (by omega)
    have hb7 : μ b 7 = t.2.2 := by rw [w3, iup_same]
    have q0 : i < μ0 p 1 → 97 ≤ μ0 (p + 1) i ∧ μ0 (p + 1) i < 103 := fun h => g4 i (by omega) h (by omega)
    have q2 : i < μ0 p 1 → 97 ≤ μ0 (p + 1) (i - 2) ∧ μ0 (p + 1) (i - 2) < 103 := fun h => g4 (i - 2) (by omega) (by omega) (by omega)
    refine v_iload_n aX0_write_2 rfl ?_
    refine v_aload_n aX0_write_3 rfl ?_
    refine v_gi 1 rfl aX0_write_4 fX0_43 hP.p rfl rfl ?_
    rw [hpz]
    refine v_icmp_ge 56 rfl aX0_write_7 (by omega) (by omega) (fun c7 => ?_) (fun c7 => ?_)
    · --
      refine v_return aX0_write_56 rfl ⟨Nat.le_refl _, Nat.le_refl _⟩ ?_
      rw [if_neg (by omega)] at hh
      exact hh μ ⟨w1, w2, w3, w4⟩
    · --
      have q0 := q0 (by omega)
      have q2 := q2 (by omega)
      have q5 := g5 (i - 1) (by omega) (by omega)
      refine v_aload_n aX0_write_10 rfl ?_
      refine v_iload_n aX0_write_11 rfl ?_
      refine v_cVi (c_X2_sackAt hP (by omega)) aX0_write_12 mX2_sackAt vX2_sackAt lX0_48 hP.p rfl rfl rfl rfl rfl (Nat.le_of_ble_eq_true rfl) ⟨Nat.le_of_ble_eq_true rfl, Nat.le_of_ble_eq_true rfl⟩ (Nat.le_of_ble_eq_true rfl) ?_
      rw [hpd]
      refine v_istore_n aX0_write_15 (by decide) rfl ?_
      refine v_aload_n aX0_write_16 rfl ?_
      refine v_getr aX0_write_17 fX0_16 hB.p rfl rfl ?_
      refine v_iload_n aX0_write_20 rfl ?_
      refine v_dup2 rfl rfl aX0_write_21 ?_
      refine v_iald aX0_write_22 hB.p_lifts (by omega) (by decide) ?_
      refine v_iconst aX0_write_23 ?_
      refine v_iadd aX0_write_24 ?_
      refine v_iast aX0_write_25 hB.p_lifts (by omega) (by decide) ?_
      refine v_iload_n aX0_write_26 rfl ?_
      refine v_iconst aX0_write_27 ?_
      refine v_icmp_lt 50 rfl aX0_write_28 (by omega) (by omega) (fun c28 => ?_) (fun c28 => ?_)
      · exact absurd c28 (by omega)
      · --
        refine v_aload_n aX0_write_31 rfl ?_
        refine v_iload_n aX0_write_32 rfl ?_
        refine v_aload_n aX0_write_33 rfl ?_
        refine v_iload_n aX0_write_34 rfl ?_
        refine v_iconst aX0_write_35 ?_
        refine v_isub aX0_write_36 ?_
        refine v_cVi (c_X2_sackAt hP (by omega)) aX0_write_37 mX2_sackAt vX2_sackAt lX0_48 hP.p rfl rfl rfl rfl rfl (Nat.le_of_ble_eq_true rfl) ⟨Nat.le_of_ble_eq_true rfl, Nat.le_of_ble_eq_true rfl⟩ (Nat.le_of_ble_eq_true rfl) ?_
        rw [upd2_row (by omega), hpd]
        refine v_aload_n aX0_write_40 rfl ?_
        refine v_iload_n aX0_write_41 rfl ?_
        refine v_iconst aX0_write_42 ?_
        refine v_isub aX0_write_43 ?_
        refine v_cVi (c_X2_howAt hP (by omega) (by rw [upd2_row (by omega), hpd]; omega)) aX0_write_44 mX2_howAt vX2_howAt lX0_52 hP.p rfl rfl rfl rfl rfl (Nat.le_of_ble_eq_true rfl) ⟨Nat.le_of_ble_eq_true rfl, Nat.le_of_ble_eq_true rfl⟩ (Nat.le_of_ble_eq_true rfl) ?_
        rw [upd2_row (by omega), hpd]
        refine v_cVw (c_X0_addSaying (K := t.1) hB (by rw [upd2_row (by omega), hb7]; omega) (by omega) (by omega) (fun x hx j j0 j5 => by rw [upd2_row (by omega)]; exact w1 x hx j j0 j5)) aX0_write_47 mX0_addSaying vX0_addSaying lX0_55 hB.p rfl rfl rfl rfl rfl (Nat.le_of_ble_eq_true rfl) ⟨Nat.le_of_ble_eq_true rfl, Nat.le_of_ble_eq_true rfl⟩ (Nat.le_of_ble_eq_true rfl) (fun μ2 ⟨r1, r2, r3⟩ => ?_)
        refine v_iinc aX0_write_50 rfl (by decide) rfl ?_
        refine v_goto 2 rfl aX0_write_53 ?_
        have e14 : Eq6 (upd2 μ (b + 14) (μ0 (p + 1) i - 97) (μ (b + 14) (μ0 (p + 1) i - 97) + 1) (b + 14)) (iup t.2.1 (μ0 (p + 1) i - 97) (t.2.1 (μ0 (p + 1) i - 97) + 1)) := by
          rw [upd2_iup, row_same]
          exact iup_eq6 w2 (by rw [w2 _ (by omega) (by omega)])
        refine ih (i + 2) μ2 (lstep (μ0 (p + 1)) i t) (by omega) (by omega) (by show 0 ≤ t.2.2 + 1 ∧ t.2.2 + 1 + _ ≤ 12; omega) ⟨fun x hx j j0 j5 => ?_, ?_, ?_, fun q q1 q2 => ?_⟩ (by rw [if_pos (by omega)] at hh; exact hh) _
        · rw [r1 x hx j j0 j5, ladd_eq e14 (by omega) (by omega), upd2_row (by omega), hb7]; rfl
        · rw [r3 (b + 14) (by omega) (by omega)]; exact e14
        · rw [r2, upd2_row (by omega), w3, iup_iup, iup_same]; rfl
        · rw [r3 q q1 (by omega), upd2_row (by omega)]; exact w4 q q1 q2
set_option maxHeartbeats 4000000 in
set_option maxRecDepth 100000 in
theorem f_X0_write {P : Pst} {p : Nat} {μ0 : Mu} (hB : BookS S b) (hP : PadS S p) (hd : p + 2 ≤ b ∨ b + 19 ≤ p) (hg : LineOk (μ0 (p + 1)) (μ0 p 1)) {t : LSt} (hc : 0 ≤ t.2.2 ∧ t.2.2 + μ0 p 1 / 2 ≤ 12) (hw : WIn μ0 μ b t) (hh : ∀ μ, WIn μ0 μ b (lnd (μ0 (p + 1)) (μ0 p 1) 41 2 (t.1, iup t.2.1 (μ0 (p + 1) 0 - 97) (t.2.1 (μ0 (p + 1) 0 - 97) + 1), t.2.2)) → P none S μ) : V l G cX0_write (yX0_write, 4, none, 1, 0, 0) P (0, 0) S μ 2 [.ref b, .ref p, vi 0] [] := by
  obtain ⟨w1, w2, w3, w4⟩ := hw
  obtain ⟨⟨g1, g2, g3⟩, g4, g5⟩ := id hg
  have hpd : μ (p + 1) = μ0 (p + 1) := w4 _ (by omega) (by omega)
  have hpz : μ p = μ0 p := w4 _ (by omega) (by omega)
  have hb7 : μ b 7 = t.2.2 := by rw [w3, iup_same]
  have q0 : 97 ≤ μ0 (p + 1) 0 ∧ μ0 (p + 1) 0 < 103 := g4 0 (by omega) (by omega) (by omega)
  refine v_iload_n aX0_write_2 rfl ?_
  refine v_aload_n aX0_write_3 rfl ?_
  refine v_gi 1 rfl aX0_write_4 fX0_43 hP.p rfl rfl ?_
  rw [hpz]
  refine v_icmp_ge 56 rfl aX0_write_7 (by omega) (by omega) (fun c7 => ?_) (fun c7 => ?_)
  · exact absurd c7 (by omega)
  · --
    refine v_aload_n aX0_write_10 rfl ?_
    refine v_iload_n aX0_write_11 rfl ?_
    refine v_cVi (c_X2_sackAt hP (by omega)) aX0_write_12 mX2_sackAt vX2_sackAt lX0_48 hP.p rfl rfl rfl rfl rfl (Nat.le_of_ble_eq_true rfl) ⟨Nat.le_of_ble_eq_true rfl, Nat.le_of_ble_eq_true rfl⟩ (Nat.le_of_ble_eq_true rfl) ?_
    rw [hpd]
    refine v_istore_n aX0_write_15 (by decide) rfl ?_
    refine v_aload_n aX0_write_16 rfl ?_
    refine v_getr aX0_write_17 fX0_16 hB.p rfl rfl ?_
    refine v_iload_n aX0_write_20 rfl ?_
    refine v_dup2 rfl rfl aX0_write_21 ?_
    refine v_iald aX0_write_22 hB.p_lifts (by omega) (by decide) ?_
    refine v_iconst aX0_write_23 ?_
    refine v_iadd aX0_write_24 ?_
    refine v_iast aX0_write_25 hB.p_lifts (by omega) (by decide) ?_
    refine v_iload_n aX0_write_26 rfl ?_
    refine v_iconst aX0_write_27 ?_
    refine v_icmp_lt 50 rfl aX0_write_28 (by omega) (by omega) (fun c28 => ?_) (fun c28 => ?_)
    · --
      refine v_iinc aX0_write_50 rfl (by decide) rfl ?_
      refine v_goto 2 rfl aX0_write_53 ?_
      refine l_X0_write hB hP hd hg 41 2 _ (t.1, iup t.2.1 (μ0 (p + 1) 0 - 97) (t.2.1 (μ0 (p + 1) 0 - 97) + 1), t.2.2) (by omega) (by omega) (by show 0 ≤ t.2.2 ∧ t.2.2 + _ ≤ 12; omega) ⟨fun x hx j j0 j5 => ?_, ?_, ?_, fun q q1 q2 => ?_⟩ hh _
      · rw [upd2_row (by omega)]; exact w1 x hx j j0 j5
      · rw [upd2_iup, row_same]
        exact iup_eq6 w2 (by rw [w2 _ (by omega) (by omega)])
      · rw [upd2_row (by omega)]; exact w3
      · rw [upd2_row (by omega)]; exact w4 q q1 q2
    · exact absurd (by omega) c28
set_option maxHeartbeats 4000000 in
set_option maxRecDepth 100000 in
theorem c_X0_write {p : Nat} {K L : Int → Int} (hB : BookS S b) (hP : PadS S p) (hd : p + 2 ≤ b ∨ b + 19 ≤ p) (hg : LineOk (μ (p + 1)) (μ p 1)) (hc : 0 ≤ μ b 7 ∧ μ b 7 + μ p 1 / 2 ≤ 12) (hK : ∀ i : Nat, i < 12 → ∀ j : Int, 0 ≤ j → j < 5 → μ (b + 2 + i) j = K (5 * i + j)) (hL : Eq6 (μ (b + 14)) L) : Ct l G cX0_write (yX0_write, 4, none, 1, 0, 0) [.ref b, .ref p] S μ (Rw S (fun μ' => WIn μ μ' b (lnd (μ (p + 1)) (μ p 1) 41 2 (K, iup L (μ (p + 1) 0 - 97) (L (μ (p + 1) 0 - 97) + 1), μ b 7)))) := by
  refine Ct.of (by decide) rfl (by simp [vi, Value.category]) (Nat.le_of_ble_eq_true rfl) ?_
  refine v_iconst aX0_write_0 ?_
  refine v_istore_n aX0_write_1 (by decide) rfl ?_
  refine f_X0_write (t := (K, L, μ b 7)) hB hP hd hg hc ⟨hK, hL, ?_, fun _ _ _ => rfl⟩ (fun μ' h => ⟨rfl, rfl, h⟩)
  funext z
  by_cases e : z = 7
  · subst e; simp [iup]
  · simp [iup, e]
set_option maxHeartbeats 4000000 in
set_option maxRecDepth 100000 in
theorem l_X0_copyFrom {q : Nat} {μ0 : Mu} {P : Pst} (hB : BookS S b) (hQ : BookS S q) (hd : q + 19 ≤ b ∨ b + 19 ≤ q) (hh : ∀ μ : Mu, (∀ x : Nat, (x < b + 2 ∨ b + 14 ≤ x) → μ x = μ0 x) → (∀ i : Nat, i < 12 → ∀ j : Int, 0 ≤ j → j < 5 → μ (b + 2 + i) j = μ0 (q + 2 + i) j) → V l G cX0_copyFrom (yX0_copyFrom, 3, none, 1, 0, 0) P (0, 0) S μ 32 [.ref b, .ref q, vi 12] []) : ∀ (m : Nat) (i : Int) (μ : Mu), (0 ≤ i ∧ i ≤ 12) → 12 - i < m → (∀ x : Nat, (x < b + 2 ∨ b + 14 ≤ x) → μ x = μ0 x) → (∀ x : Nat, (x : Int) < i → ∀ j : Int, 0 ≤ j → j < 5 → μ (b + 2 + x) j = μ0 (q + 2 + x) j) → V l G cX0_copyFrom (yX0_copyFrom, 3, none, 1, 0, 0) P (0, 0) S μ 2 [.ref b, .ref q, vi i] [] := by
  intro m
  induction m with
  | zero => intro i μ h0 h1; omega
  | succ m ih =>
    intro i μ h0 h1 hx hr
    have hci : ((i.toNat : Nat) : Int) = i := by omega
    have r0 : i < 12 → S.2 (b + 2 + i.toNat) = some (aI 5) := fun h => hB.p_row i.toNat (by omega)
    have r1 : i < 12 → S.2 (q + 2 + i.toNat) = some (aI 5) := fun h => hQ.p_row i.toNat (by omega)
    refine v_iload_n aX0_copyFrom_2 rfl ?_
    refine v_bipush (by decide) aX0_copyFrom_3 ?_
    refine v_icmp_ge 32 rfl aX0_copyFrom_5 (by omega) (by omega) (fun c5 => ?_) (fun c5 => ?_)
    · --
      obtain rfl : i = 12 := by omega
      exact hh μ hx (fun x hq j j0 j5 => hr x (by omega) j j0 j5)
    · --
      have r0 := r0 (by omega)
      have r1 := r1 (by omega)
      refine v_aload_n aX0_copyFrom_8 rfl ?_
      refine v_getr aX0_copyFrom_9 fX0_11 hQ.p rfl rfl ?_
      refine v_iload_n aX0_copyFrom_12 rfl ?_
      refine v_aaldR (kk := 102) (q := q + 2 + i.toNat) rfl rfl aX0_copyFrom_13 hQ.p_sayings (by omega) (by decide) (by simp; omega) ?_
      refine v_iconst aX0_copyFrom_14 ?_
      refine v_aload_n aX0_copyFrom_15 rfl ?_
      refine v_getr aX0_copyFrom_16 fX0_11 hB.p rfl rfl ?_
      refine v_iload_n aX0_copyFrom_19 rfl ?_
      refine v_aaldR (kk := 102) (q := b + 2 + i.toNat) rfl rfl aX0_copyFrom_20 hB.p_sayings (by omega) (by decide) (by simp; omega) ?_
      refine v_iconst aX0_copyFrom_21 ?_
      refine v_iconst aX0_copyFrom_22 ?_
      refine v_copy aX0_copyFrom_23 laX0_59 w_acn w_acs w_sysi r1 r0 (by omega) (by decide) (by decide) (by decide) (by decide) (by decide) (by decide) (by decide) (Nat.le_of_ble_eq_true rfl) (Nat.le_of_ble_eq_true rfl) ?_
      refine v_iinc aX0_copyFrom_26 rfl (by decide) rfl ?_
      refine v_goto 2 rfl aX0_copyFrom_29 ?_
      refine ih (i + 1) _ (by omega) (by omega) (fun x hq => ?_) (fun x hq j j0 j5 => ?_)
      · rw [row_ne (by omega)]; exact hx x hq
      · by_cases e : x = i.toNat
        · subst e
          rw [row_same]
          unfold icp
          rw [if_pos (by omega), hx _ (by omega)]
          exact congrArg _ (by omega)
        · rw [row_ne (by omega)]; exact hr x (by omega) j j0 j5
set_option maxHeartbeats 4000000 in
set_option maxRecDepth 100000 in
theorem c_X0_copyFrom {q : Nat} {t : BSt} (hB : BookS S b) (hQ : BookS S q) (hd : q + 19 ≤ b ∨ b + 19 ≤ q) (ht : BkAt μ q t) : Ct l G cX0_copyFrom (yX0_copyFrom, 3, none, 1, 0, 0) [.ref b, .ref q] S μ (Rw S (fun μ' => BkAt μ' b t ∧ Out μ μ' b 19)) := by
  refine Ct.of (by decide) rfl (by simp [vi, Value.category]) (Nat.le_of_ble_eq_true rfl) ?_
  refine v_iconst aX0_copyFrom_0 ?_
  refine v_istore_n aX0_copyFrom_1 (by decide) rfl ?_
  refine l_X0_copyFrom (μ0 := μ) hB hQ hd (fun μ0 hx hr => ?_) 13 0 μ (by omega) (by omega) (fun _ _ => rfl) (fun x h => absurd h (by omega))
  refine v_aload_n aX0_copyFrom_32 rfl ?_
  refine v_getr aX0_copyFrom_33 fX0_16 hQ.p rfl rfl ?_
  refine v_iconst aX0_copyFrom_36 ?_
  refine v_aload_n aX0_copyFrom_37 rfl ?_
  refine v_getr aX0_copyFrom_38 fX0_16 hB.p rfl rfl ?_
  refine v_iconst aX0_copyFrom_41 ?_
  refine v_bipush (by decide) aX0_copyFrom_42 ?_
  refine v_copy aX0_copyFrom_44 laX0_59 w_acn w_acs w_sysi hQ.p_lifts hB.p_lifts (by omega) (by decide) (by decide) (by decide) (by decide) (by decide) (by decide) (by decide) (Nat.le_of_ble_eq_true rfl) (Nat.le_of_ble_eq_true rfl) ?_
  generalize hM1 : row μ0 (b + 14) _ = μ1
  have k1 : ∀ x : Nat, x ≠ b + 14 → μ1 x = μ0 x := fun x hx => by rw [← hM1]; exact row_ne hx
  have v1 : Eq6 (μ1 (b + 14)) (μ0 (q + 14)) := by rw [← hM1, row_same]; exact icp6
  refine v_aload_n aX0_copyFrom_47 rfl ?_
  refine v_getr aX0_copyFrom_48 fX0_20 hQ.p rfl rfl ?_
  refine v_iconst aX0_copyFrom_51 ?_
  refine v_aload_n aX0_copyFrom_52 rfl ?_
  refine v_getr aX0_copyFrom_53 fX0_20 hB.p rfl rfl ?_
  refine v_iconst aX0_copyFrom_56 ?_
  refine v_bipush (by decide) aX0_copyFrom_57 ?_
  refine v_copy aX0_copyFrom_59 laX0_59 w_acn w_acs w_sysi hQ.p_least hB.p_least (by omega) (by decide) (by decide) (by decide) (by decide) (by decide) (by decide) (by decide) (Nat.le_of_ble_eq_true rfl) (Nat.le_of_ble_eq_true rfl) ?_
  generalize hM2 : row μ1 (b + 15) _ = μ2
  have k2 : ∀ x : Nat, x ≠ b + 15 → μ2 x = μ1 x := fun x hx => by rw [← hM2]; exact row_ne hx
  have v2 : Eq6 (μ2 (b + 15)) (μ1 (q + 15)) := by rw [← hM2, row_same]; exact icp6
  refine v_aload_n aX0_copyFrom_62 rfl ?_
  refine v_getr aX0_copyFrom_63 fX0_23 hQ.p rfl rfl ?_
  refine v_iconst aX0_copyFrom_66 ?_
  refine v_aload_n aX0_copyFrom_67 rfl ?_
  refine v_getr aX0_copyFrom_68 fX0_23 hB.p rfl rfl ?_
  refine v_iconst aX0_copyFrom_71 ?_
  refine v_bipush (by decide) aX0_copyFrom_72 ?_
  refine v_copy aX0_copyFrom_74 laX0_59 w_acn w_acs w_sysi hQ.p_greatest hB.p_greatest (by omega) (by decide) (by decide) (by decide) (by decide) (by decide) (by decide) (by decide) (Nat.le_of_ble_eq_true rfl) (Nat.le_of_ble_eq_true rfl) ?_
  generalize hM3 : row μ2 (b + 16) _ = μ3
  have k3 : ∀ x : Nat, x ≠ b + 16 → μ3 x = μ2 x := fun x hx => by rw [← hM3]; exact row_ne hx
  have v3 : Eq6 (μ3 (b + 16)) (μ2 (q + 16)) := by rw [← hM3, row_same]; exact icp6
  refine v_aload_n aX0_copyFrom_77 rfl ?_
  refine v_getr aX0_copyFrom_78 fX0_26 hQ.p rfl rfl ?_
  refine v_iconst aX0_copyFrom_81 ?_
  refine v_aload_n aX0_copyFrom_82 rfl ?_
  refine v_getr aX0_copyFrom_83 fX0_26 hB.p rfl rfl ?_
  refine v_iconst aX0_copyFrom_86 ?_
  refine v_bipush (by decide) aX0_copyFrom_87 ?_
  refine v_copy aX0_copyFrom_89 laX0_59 w_acn w_acs w_sysi hQ.p_tolls hB.p_tolls (by omega) (by decide) (by decide) (by decide) (by decide) (by decide) (by decide) (by decide) (Nat.le_of_ble_eq_true rfl) (Nat.le_of_ble_eq_true rfl) ?_
  generalize hM4 : row μ3 (b + 17) _ = μ4
  have k4 : ∀ x : Nat, x ≠ b + 17 → μ4 x = μ3 x := fun x hx => by rw [← hM4]; exact row_ne hx
  have v4 : Eq6 (μ4 (b + 17)) (μ3 (q + 17)) := by rw [← hM4, row_same]; exact icp6
  refine v_aload_n aX0_copyFrom_92 rfl ?_
  refine v_getr aX0_copyFrom_93 fX0_29 hQ.p rfl rfl ?_
  refine v_iconst aX0_copyFrom_96 ?_
  refine v_aload_n aX0_copyFrom_97 rfl ?_
  refine v_getr aX0_copyFrom_98 fX0_29 hB.p rfl rfl ?_
  refine v_iconst aX0_copyFrom_101 ?_
  refine v_bipush (by decide) aX0_copyFrom_102 ?_
  refine v_copy aX0_copyFrom_104 laX0_59 w_acn w_acs w_sysi hQ.p_weights hB.p_weights (by omega) (by decide) (by decide) (by decide) (by decide) (by decide) (by decide) (by decide) (Nat.le_of_ble_eq_true rfl) (Nat.le_of_ble_eq_true rfl) ?_
  generalize hM5 : row μ4 (b + 18) _ = μ5
  have k5 : ∀ x : Nat, x ≠ b + 18 → μ5 x = μ4 x := fun x hx => by rw [← hM5]; exact row_ne hx
  have v5 : Eq6 (μ5 (b + 18)) (μ4 (q + 18)) := by rw [← hM5, row_same]; exact icp6
  refine v_aload_n aX0_copyFrom_107 rfl ?_
  refine v_aload_n aX0_copyFrom_108 rfl ?_
  refine v_gi 6 rfl aX0_copyFrom_109 fX0_36 hQ.p rfl rfl ?_
  refine v_pi 6 rfl aX0_copyFrom_112 fX0_36 nf0_6 ok0_6 hB.p rfl rfl ?_
  refine v_aload_n aX0_copyFrom_115 rfl ?_
  refine v_aload_n aX0_copyFrom_116 rfl ?_
  refine v_gi 7 rfl aX0_copyFrom_117 fX0_40 hQ.p rfl rfl ?_
  refine v_pi 7 rfl aX0_copyFrom_120 fX0_40 nf0_7 ok0_7 hB.p rfl rfl ?_
  refine v_aload_n aX0_copyFrom_123 rfl ?_
  refine v_aload_n aX0_copyFrom_124 rfl ?_
  refine v_gi 8 rfl aX0_copyFrom_125 fX0_65 hQ.p rfl rfl ?_
  refine v_pi 8 rfl aX0_copyFrom_128 fX0_65 nf0_8 ok0_8 hB.p rfl rfl ?_
  refine v_return aX0_copyFrom_131 rfl ⟨Nat.le_refl _, Nat.le_refl _⟩ ?_
  obtain ⟨t1, t2, t3, t4, t5, t6, t7, t8, t9⟩ := ht
  have hq : ∀ x : Nat, (x < b ∨ b + 19 ≤ x) → μ5 x = μ x := fun x h => by rw [k5 x (by omega), k4 x (by omega), k3 x (by omega), k2 x (by omega), k1 x (by omega)]; exact hx x (by omega)
  refine ⟨rfl, rfl, ⟨?_, ?_, ?_, fun i hi j j0 j5 => ?_, ?_, ?_, ?_, ?_, ?_⟩, fun x h => ?_⟩
  · simp [upd2_ap]
    rw [hq q (by omega)]; exact t1
  · have e : b ≠ q := by omega
    simp [upd2_ap, e, Ne.symm e]
    rw [hq q (by omega)]; exact t2
  · have e : b ≠ q := by omega
    simp [upd2_ap, e, Ne.symm e]
    rw [hq q (by omega)]; exact t3
  · rw [upd2_row (by omega), upd2_row (by omega), upd2_row (by omega), k5 _ (by omega), k4 _ (by omega), k3 _ (by omega), k2 _ (by omega), k1 _ (by omega), hr i hi j j0 j5]; exact t4 i hi j j0 j5
  · rw [upd2_row (by omega), upd2_row (by omega), upd2_row (by omega), k5 _ (by omega), k4 _ (by omega), k3 _ (by omega), k2 _ (by omega)]
    intro i i0 i6; rw [v1 i i0 i6, hx _ (by omega)]; exact t5 i i0 i6
  · rw [upd2_row (by omega), upd2_row (by omega), upd2_row (by omega), k5 _ (by omega), k4 _ (by omega), k3 _ (by omega)]
    intro i i0 i6; rw [v2 i i0 i6, k1 _ (by omega), hx _ (by omega)]; exact t6 i i0 i6
  · rw [upd2_row (by omega), upd2_row (by omega), upd2_row (by omega), k5 _ (by omega), k4 _ (by omega)]
    intro i i0 i6; rw [v3 i i0 i6, k2 _ (by omega), k1 _ (by omega), hx _ (by omega)]; exact t7 i i0 i6
  · rw [upd2_row (by omega), upd2_row (by omega), upd2_row (by omega), k5 _ (by omega)]
    intro i i0 i6; rw [v4 i i0 i6, k3 _ (by omega), k2 _ (by omega), k1 _ (by omega), hx _ (by omega)]; exact t8 i i0 i6
  · rw [upd2_row (by omega), upd2_row (by omega), upd2_row (by omega)]
    intro i i0 i6; rw [v5 i i0 i6, k4 _ (by omega), k3 _ (by omega), k2 _ (by omega), k1 _ (by omega), hx _ (by omega)]; exact t9 i i0 i6
  · rw [upd2_row (by omega), upd2_row (by omega), upd2_row (by omega)]; exact hq x h
end BOOK2
