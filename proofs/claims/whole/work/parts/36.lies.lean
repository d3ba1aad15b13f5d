/-! false sayings -/
theorem pow_13 : ∀ g : Nat, g < 13 → iShl 1 (g : Int) = ((2 ^ g : Nat) : Int) ∧ ∀ j : Nat, j < 12 → bt (Int32.ofInt (iShl 1 (g : Int) - 1)) j = decide (j < g) := by decide +kernel
theorem shl_13 {g : Int} (hg : 0 ≤ g ∧ g ≤ 12) : (iShl 1 g = ((2 ^ g.toNat : Nat) : Int) ∧ 1 ≤ iShl 1 g ∧ iShl 1 g ≤ 4096) ∧ ∀ j : Int, 0 ≤ j → j < 12 → (tb (iShl 1 g - 1) j ↔ j < g) := by
  have := pow_13 g.toNat (by omega)
  rw [show ((g.toNat : Nat) : Int) = g by omega] at this
  have p3 : 0 < 2 ^ g.toNat := Nat.pow_pos (by decide)
  have p2 : (2 : Nat) ^ g.toNat ≤ 2 ^ 12 := Nat.pow_le_pow_right (by decide) (by omega)
  have hp : (2 : Nat) ^ 12 = 4096 := rfl
  refine ⟨⟨this.1, by rw [this.1]; omega, by rw [this.1]; omega⟩, fun j j0 j1 => ?_⟩
  unfold tb
  rw [this.2 j.toNat (by omega)]
  simp
  omega
theorem bc_r {x : Int} (h : 0 ≤ x ∧ x < 4096) : bcF x = cntP (fun j => tb x j) 12 ∧ 0 ≤ bcF x ∧ bcF x ≤ 12 := by
  have e := bc_cnt (z := x) 12 (by decide) h.1 (by show x.toNat < 4096; omega)
  have n0 := cntP_nn (p := fun j => tb x j) 12
  rw [e]
  exact ⟨rfl, by omega⟩
/-- can the rest be, X left out -/
def CanS (t : BSt) (X : Int) : Prop := Can t (fun j => ¬ tb X j)
noncomputable def lstp (t : BSt) (X : Int) (s : Int × Int × Int) : Int × Int × Int := if bcF X ≤ s.1 ∧ b2i (CanS t X) = 1 then (if bcF X < s.1 then (bcF X, X, X) else (s.1, s.2.1, iAnd s.2.2 X)) else s
noncomputable def lf (t : BSt) (s : Int × Int × Int) : Nat → Int × Int × Int
  | 0 => s
  | k + 1 => lstp t (k : Int) (lf t s k)
theorem lf_s {t : BSt} {s : Int × Int × Int} {i : Int} (h : 0 ≤ i) : lf t s (i + 1).toNat = lstp t i (lf t s i.toNat) := by
  rw [show (i + 1).toNat = i.toNat + 1 by omega]
  show lstp t (i.toNat : Int) _ = _
  rw [show ((i.toNat : Nat) : Int) = i by omega]
theorem lf_r {t : BSt} {a b : Int} : ∀ k : Nat, k ≤ 4096 → 0 ≤ (lf t (13, a, b) k).1 ∧ (lf t (13, a, b) k).1 ≤ 13
  | 0, _ => ⟨by show (0 : Int) ≤ 13; decide, by show (13 : Int) ≤ 13; decide⟩
  | k + 1, hk => by
    have h := lf_r (t := t) (a := a) (b := b) k (by omega)
    have h2 := bc_r (x := (k : Int)) (by omega)
    show 0 ≤ (lstp t (k : Int) (lf t (13, a, b) k)).1 ∧ (lstp t (k : Int) (lf t (13, a, b) k)).1 ≤ 13
    unfold lstp
    split
    · split
      · dsimp only; omega
      · exact h
    · exact h
theorem lf_eq {t : BSt} {a b a' b' : Int} : ∀ k : Nat, k ≤ 4096 → (lf t (13, a, b) k).1 = (lf t (13, a', b') k).1 ∧ ((lf t (13, a, b) k).1 ≠ 13 → lf t (13, a, b) k = lf t (13, a', b') k)
  | 0, _ => ⟨rfl, fun h => absurd rfl h⟩
  | k + 1, hk => by
    have h := lf_eq (t := t) (a := a) (b := b) (a' := a') (b' := b') k (by omega)
    have h2 := bc_r (x := (k : Int)) (by omega)
    have hr := lf_r (t := t) (a := a) (b := b) k (by omega)
    show (lstp t (k : Int) (lf t (13, a, b) k)).1 = (lstp t (k : Int) (lf t (13, a', b') k)).1 ∧ _
    show (lstp t (k : Int) (lf t (13, a, b) k)).1 = (lstp t (k : Int) (lf t (13, a', b') k)).1 ∧ ((lstp t (k : Int) (lf t (13, a, b) k)).1 ≠ 13 → lstp t (k : Int) (lf t (13, a, b) k) = lstp t (k : Int) (lf t (13, a', b') k))
    by_cases q : (lf t (13, a, b) k).1 = 13
    · have q' := h.1.symm.trans q
      unfold lstp
      rw [q, q']
      by_cases c : bcF (k : Int) ≤ 13 ∧ b2i (CanS t (k : Int)) = 1
      · rw [if_pos c, if_pos c, if_pos (by omega), if_pos (by omega)]
        exact ⟨rfl, fun _ => rfl⟩
      · rw [if_neg c, if_neg c]
        exact ⟨h.1, fun z => absurd q z⟩
    · rw [← h.2 q]
      exact ⟨rfl, fun _ => rfl⟩
theorem lf_13 {t : BSt} {a b : Int} : ∀ k j : Nat, k ≤ 4096 → j < k → CanS t (j : Int) → (lf t (13, a, b) k).1 < 13
  | 0, _, _, h, _ => absurd h (Nat.not_lt_zero _)
  | k + 1, j, hk, hj, hc => by
    have h2 := bc_r (x := (k : Int)) (by omega)
    have hr := lf_r (t := t) (a := a) (b := b) k (by omega)
    show (lstp t (k : Int) (lf t (13, a, b) k)).1 < 13
    by_cases e : j = k
    · subst e
      unfold lstp
      by_cases q : bcF (j : Int) ≤ (lf t (13, a, b) j).1
      · rw [if_pos ⟨q, b2i_t hc⟩]
        split
        · dsimp only; omega
        · dsimp only; omega
      · rw [if_neg (fun z => q z.1)]; omega
    · have := lf_13 (a := a) (b := b) k j (by omega) (by omega) hc
      unfold lstp
      split
      · split
        · dsimp only; omega
        · exact this
      · exact this
noncomputable def liesR (t : BSt) (a b : Int) : Int × Int × Int := lf t (13, a, b) (iShl 1 t.2.1).toNat
theorem lies_eq {t : BSt} {B a b a' b' : Int} (hok : StOk t B) : liesR t a b = liesR t a' b' := by
  obtain ⟨⟨p1, p2, p3⟩, p4⟩ := shl_13 (g := t.2.1) hok.2.1
  have hc := hok.2.1
  have h := lf_13 (t := t) (a := a) (b := b) (iShl 1 t.2.1).toNat ((iShl 1 t.2.1).toNat - 1) (by omega) (by omega) (by
    rw [show (((iShl 1 t.2.1).toNat - 1 : Nat) : Int) = iShl 1 t.2.1 - 1 by omega]
    rintro x y ⟨k, k0, k1, k2, -⟩
    exact absurd ((p4 k k0 (by omega)).mpr k1) k2)
  exact (lf_eq (a := a) (b := b) (a' := a') (b' := b') (iShl 1 t.2.1).toNat (by omega)).2 (by omega)
noncomputable def sp_lies (t : BSt) (w : Int) : Int := if 0 ≤ w ∧ w ≤ 2 then (if w = 0 then (liesR t 0 0).1 else if w = 1 then (liesR t 0 0).2.1 else (liesR t 0 0).2.2) else -2
def Fm (μ : Mu) (f : Nat) : Int × Int × Int := (μ f 0, μ f 1, μ f 2)
section LIE
variable {l : Launch} {G : Glb} {S : Sh} {μ : Mu} {f b k : Nat} {t : BSt} {B : Int}
set_option maxHeartbeats 4000000 in
set_option maxRecDepth 100000 in
theorem c_X1_take {X sz : Int} (hF : FalS S f) (h0 : 0 ≤ μ f 0 ∧ μ f 0 ≤ 13) (hs : 0 ≤ sz ∧ sz ≤ 12) : Ct l G cX1_take (yX1_take, 3, none, 0, 0, 0) [.ref f, vi X, vi sz] S μ (Rw S (fun μ' => Fm μ' f = (if sz < μ f 0 then (sz, X, X) else (μ f 0, μ f 1, iAnd (μ f 2) X)) ∧ ∀ q : Nat, q ≠ f → μ' q = μ q)) := by
  refine Ct.of (by decide) rfl (by simp [vi, Value.category]) (Nat.le_of_ble_eq_true rfl) ?_
  refine v_iload_n aX1_take_0 rfl ?_
  refine v_aload_n aX1_take_1 rfl ?_
  refine v_gi 0 rfl aX1_take_2 fX1_9 hF.p rfl rfl ?_
  refine v_icmp_ge 26 rfl aX1_take_5 (by omega) (by omega) (fun c5 => ?_) (fun c5 => ?_)
  · --
    refine v_aload_n aX1_take_26 rfl ?_
    refine v_dup rfl aX1_take_27 ?_
    refine v_gi 2 rfl aX1_take_28 fX1_18 hF.p rfl rfl ?_
    refine v_iload_n aX1_take_31 rfl ?_
    refine v_iand aX1_take_32 ?_
    refine v_pi 2 rfl aX1_take_33 fX1_18 nf1_2 ok1_2 hF.p rfl rfl ?_
    refine v_return aX1_take_36 rfl ⟨Nat.le_refl _, Nat.le_refl _⟩ ?_
    refine ⟨rfl, rfl, ?_, fun q hq => upd2_row hq⟩
    rw [if_neg (by omega)]
    unfold Fm
    simp [upd2_ap]
  · --
    refine v_aload_n aX1_take_8 rfl ?_
    refine v_iload_n aX1_take_9 rfl ?_
    refine v_pi 0 rfl aX1_take_10 fX1_9 nf1_0 ok1_0 hF.p rfl rfl ?_
    refine v_aload_n aX1_take_13 rfl ?_
    refine v_iload_n aX1_take_14 rfl ?_
    refine v_pi 1 rfl aX1_take_15 fX1_15 nf1_1 ok1_1 hF.p rfl rfl ?_
    refine v_aload_n aX1_take_18 rfl ?_
    refine v_iload_n aX1_take_19 rfl ?_
    refine v_pi 2 rfl aX1_take_20 fX1_18 nf1_2 ok1_2 hF.p rfl rfl ?_
    refine v_goto 36 rfl aX1_take_23 ?_
    refine v_return aX1_take_36 rfl ⟨Nat.le_refl _, Nat.le_refl _⟩ ?_
    refine ⟨rfl, rfl, ?_, fun q hq => (upd2_row hq).trans ((upd2_row hq).trans (upd2_row hq))⟩
    rw [if_pos (by omega)]
    unfold Fm
    simp [upd2_ap]
set_option maxHeartbeats 4000000 in
set_option maxRecDepth 100000 in
theorem li_X1_find {μ0 : Mu} (hF : FalS S f) (hB : BookS S k) (hR : RelS S b) (hd : b + 3 ≤ k ∨ k + 19 ≤ b) (hf : f ≠ b ∧ f ≠ b + 1) (hfk : f < k ∨ k + 19 ≤ f) (ht : BkAt μ0 k t) (hok : StOk t B) : ∀ (N : Nat) (i : Int) (μ : Mu) (L : List Value), (0 ≤ i ∧ i ≤ iShl 1 t.2.1) → iShl 1 t.2.1 - i < N → Fm μ f = lf t (13, 0, 0) i.toNat → (∀ q : Nat, q ≠ f → q ≠ b → q ≠ b + 1 → μ q = μ0 q) → V l G cX1_find (yX1_find, 5, none, 5, 0, 0) (Rw S (fun μ' => Fm μ' f = liesR t 0 0 ∧ (∀ q : Nat, q ≠ f → q ≠ b → q ≠ b + 1 → μ' q = μ0 q))) (0, 0) S μ 18 ([.ref f, .ref k, .ref b, vi i] ++ L) [] := by
  intro N
  induction N with
  | zero => intros; omega
  | succ N ih =>
    intro i μ L h0 h1 hT hk
    obtain ⟨o1, o2, o3, o4, o5⟩ := id hok
    obtain ⟨⟨p1, p2, p3⟩, p4⟩ := shl_13 (g := t.2.1) o2
    have ht' : BkAt μ k t := ht.kept (fun q q0 q1 => hk q (by omega) (by omega) (by omega))
    have t7 : μ k 7 = t.2.1 := ht'.2.1
    have hfr := lf_r (t := t) (a := 0) (b := 0) i.toNat (by omega)
    rw [← hT] at hfr
    have hfr : 0 ≤ μ f 0 ∧ μ f 0 ≤ 13 := hfr
    have hbc := fun q => bc_r (x := i) ⟨h0.1, q⟩
    refine v_take 4 rfl ?_
    show V _ _ _ _ _ _ _ _ _ [.ref f, .ref k, .ref b, vi i] _
    refine v_iload_n aX1_find_18 rfl ?_
    refine v_iconst aX1_find_19 ?_
    refine v_aload_n aX1_find_20 rfl ?_
    refine v_gi 7 rfl aX1_find_21 fX1_21 hB.p rfl rfl ?_
    rw [t7]
    refine v_ishl aX1_find_24 ?_
    refine v_icmp_ge 69 rfl aX1_find_25 (by omega) (by omega) (fun c25 => ?_) (fun c25 => ?_)
    · --
      refine v_return aX1_find_69 rfl ⟨Nat.le_refl _, Nat.le_refl _⟩ ?_
      obtain rfl : i = iShl 1 t.2.1 := by omega
      exact ⟨rfl, rfl, hT, hk⟩
    · --
      refine v_iload_n aX1_find_28 rfl ?_
      refine v_cSi (c_J6_bitCount_0f7a4) aX1_find_29 mJ6_bitCount_0f7a4 sJ6_bitCount_0f7a4 lX1_26 rfl rfl (Nat.le_of_ble_eq_true rfl) ⟨Nat.le_of_ble_eq_true rfl, Nat.le_of_ble_eq_true rfl⟩ (Nat.le_of_ble_eq_true rfl) ?_
      have hbc := (hbc (by omega)).2
      refine v_istore aX1_find_32 (by decide) rfl ?_
      refine v_iload aX1_find_34 rfl ?_
      refine v_aload_n aX1_find_36 rfl ?_
      refine v_gi 0 rfl aX1_find_37 fX1_9 hF.p rfl rfl ?_
      refine v_icmp_gt 63 rfl aX1_find_40 (by omega) (by omega) (fun c40 => ?_) (fun c40 => ?_)
      · --
        refine v_iinc aX1_find_63 rfl (by decide) rfl ?_
        refine v_goto 18 rfl aX1_find_66 ?_
        refine ih (i + 1) _ [vi _] (by omega) (by omega) ?_ hk
        rw [lf_s h0.1, ← hT]
        unfold lstp
        rw [if_neg (fun q => by have := q.1; unfold Fm at this; dsimp only at this; omega)]
      · --
        refine v_aload_n aX1_find_43 rfl ?_
        refine v_aload_n aX1_find_44 rfl ?_
        refine v_iload_n aX1_find_45 rfl ?_
        refine v_cVw (c_X4_read (lo := i) hR hB hd ht' hok) aX1_find_46 mX4_read vX4_read lX1_32 hR.p rfl rfl rfl rfl rfl (Nat.le_of_ble_eq_true rfl) ⟨Nat.le_of_ble_eq_true rfl, Nat.le_of_ble_eq_true rfl⟩ (Nat.le_of_ble_eq_true rfl) (fun μ1 hr => ?_)
        obtain ⟨r1, r2, r3, -, r4⟩ := hr
        have e1 : Fm μ1 f = Fm μ f := by unfold Fm; rw [r4 f hf.1 hf.2]
        have e0 : μ1 f 0 = μ f 0 := by rw [r4 f hf.1 hf.2]
        refine v_aload_n aX1_find_49 rfl ?_
        refine v_gi 4 rfl aX1_find_50 fX1_38 hR.p rfl rfl ?_
        rw [r3]
        refine v_if_eq_b 63 rfl aX1_find_53 (fun c53 => ?_) (fun c53 => ?_)
        · --
          refine v_iinc aX1_find_63 rfl (by decide) rfl ?_
          refine v_goto 18 rfl aX1_find_66 ?_
          refine ih (i + 1) _ [vi _] (by omega) (by omega) ?_ (fun q q0 q1 q2 => (r4 q q1 q2).trans (hk q q0 q1 q2))
          rw [lf_s h0.1, ← hT]
          unfold lstp
          rw [if_neg (fun q => c53 (b2i_1.mp q.2)), e1]
        · --
          refine v_aload_n aX1_find_56 rfl ?_
          refine v_iload_n aX1_find_57 rfl ?_
          refine v_iload aX1_find_58 rfl ?_
          refine v_cVw (c_X1_take hF (by omega) (by omega)) aX1_find_60 mX1_take vX1_take lX1_42 hF.p rfl rfl rfl rfl rfl (Nat.le_of_ble_eq_true rfl) ⟨Nat.le_of_ble_eq_true rfl, Nat.le_of_ble_eq_true rfl⟩ (Nat.le_of_ble_eq_true rfl) (fun μ2 ⟨k1, k2⟩ => ?_)
          refine v_iinc aX1_find_63 rfl (by decide) rfl ?_
          refine v_goto 18 rfl aX1_find_66 ?_
          refine ih (i + 1) _ [vi _] (by omega) (by omega) ?_ (fun q q0 q1 q2 => (k2 q q0).trans ((r4 q q1 q2).trans (hk q q0 q1 q2)))
          rw [lf_s h0.1, ← hT]
          unfold lstp
          rw [k1, r4 f hf.1 hf.2]
          exact (if_pos (show bcF i ≤ (Fm μ f).1 ∧ b2i (CanS t i) = 1 from ⟨by show bcF i ≤ μ f 0; omega, b2i_t c53⟩)).symm
set_option maxHeartbeats 4000000 in
set_option maxRecDepth 100000 in
theorem c_X1_find {μ0 : Mu} (hF : FalS S f) (hB : BookS S k) (hR : RelS S b) (hd : b + 3 ≤ k ∨ k + 19 ≤ b) (hf : f ≠ b ∧ f ≠ b + 1) (hfk : f < k ∨ k + 19 ≤ f) (ht : BkAt μ0 k t) (hok : StOk t B) : Ct l G cX1_find (yX1_find, 5, none, 5, 0, 0) [.ref f, .ref k, .ref b] S μ0 (Rw S (fun μ' => Fm μ' f = liesR t 0 0 ∧ (∀ q : Nat, q ≠ f → q ≠ b → q ≠ b + 1 → μ' q = μ0 q))) := by
  obtain ⟨o1, o2, o3, o4, o5⟩ := id hok
  obtain ⟨⟨p1, p2, p3⟩, p4⟩ := shl_13 (g := t.2.1) o2
  refine Ct.of (by decide) rfl (by simp [vi, Value.category]) (Nat.le_of_ble_eq_true rfl) ?_
  refine v_aload_n aX1_find_0 rfl ?_
  refine v_bipush (by decide) aX1_find_1 ?_
  refine v_pi 0 rfl aX1_find_3 fX1_9 nf1_0 ok1_0 hF.p rfl rfl ?_
  refine v_aload_n aX1_find_6 rfl ?_
  refine v_iconst aX1_find_7 ?_
  refine v_pi 1 rfl aX1_find_8 fX1_15 nf1_1 ok1_1 hF.p rfl rfl ?_
  refine v_aload_n aX1_find_11 rfl ?_
  refine v_iconst aX1_find_12 ?_
  refine v_pi 2 rfl aX1_find_13 fX1_18 nf1_2 ok1_2 hF.p rfl rfl ?_
  refine v_iconst aX1_find_16 ?_
  refine v_istore_n aX1_find_17 (by decide) rfl ?_
  refine li_X1_find hF hB hR hd hf hfk ht hok 4097 0 _ [] (by omega) (by omega) ?_ (fun q q0 q1 q2 => (upd2_row q0).trans ((upd2_row q0).trans (upd2_row q0)))
  unfold Fm
  simp [upd2_ap]
  rfl
end LIE
section LIL
variable {l : Launch} {G : Glb} {S : Sh} {μ : Mu} {x m : Nat} {im pl : Nat → Option Nat} {t : BSt} {g : Int → Int} {n B : Int}
set_option maxHeartbeats 4000000 in
set_option maxRecDepth 100000 in
theorem c_X7_lies {w : Int} (hX : LsS S x im pl) (h : LsAt μ x t g n) (hok : StOk t B) (hw : (-2147483648 ≤ w ∧ w < 2147483648)) : Ct l G cX7_lies (yX7_lies, 2, (some FieldType.int), 6, 0, 0) [.ref x, vi w] S μ (Re S (fun z μ' => z = sp_lies t w ∧ LsAt μ' x t g n ∧ Out μ μ' x 33)) := by
  refine Ct.of (by decide) rfl (by simp [vi, Value.category]) (Nat.le_of_ble_eq_true rfl) ?_
  refine v_iload_n aX7_lies_0 rfl ?_
  refine v_if_lt 9 rfl aX7_lies_1 (by omega) (fun c1 => ?_) (fun c1 => ?_)
  · --
    refine v_bipush (by decide) aX7_lies_9 ?_
    refine v_ireturn aX7_lies_11 rfl ⟨Nat.le_refl _, Nat.le_refl _⟩ ?_
    rw [show sp_lies t w = -2 from if_neg (by omega)]
    exact ⟨_, rfl, rfl, rfl, h, Out.rf⟩
  · --
    refine v_iload_n aX7_lies_4 rfl ?_
    refine v_iconst aX7_lies_5 ?_
    refine v_icmp_le 12 rfl aX7_lies_6 (by omega) (by omega) (fun c6 => ?_) (fun c6 => ?_)
    · --
      refine v_aload_n aX7_lies_12 rfl ?_
      refine v_getr aX7_lies_13 fX7_44 hX.p rfl rfl ?_
      refine v_aload_n aX7_lies_16 rfl ?_
      refine v_getr aX7_lies_17 fX7_19 hX.p rfl rfl ?_
      refine v_aload_n aX7_lies_20 rfl ?_
      refine v_getr aX7_lies_21 fX7_30 hX.p rfl rfl ?_
      refine v_cVw (c_X1_find hX.falseSayings hX.book hX.relation (by omega) (by omega) (by omega) h.1 hok) aX7_lies_24 mX1_find vX1_find lX7_198 hX.falseSayings.p rfl rfl rfl rfl rfl (Nat.le_of_ble_eq_true rfl) ⟨Nat.le_of_ble_eq_true rfl, Nat.le_of_ble_eq_true rfl⟩ (Nat.le_of_ble_eq_true rfl) (fun μ' ⟨hz, hk⟩ => ?_)
      have hL : LsAt μ' x t g n := h.kp (fun q q0 q1 => hk q (by omega) (by omega) (by omega))
      have hO : Out μ μ' x 33 := fun q hq => hk q (by omega) (by omega) (by omega)
      refine v_iload_n aX7_lies_27 rfl ?_
      refine v_if_ne 39 rfl aX7_lies_28 (by omega) (fun c28 => ?_) (fun c28 => ?_)
      · --
        refine v_iload_n aX7_lies_39 rfl ?_
        refine v_iconst aX7_lies_40 ?_
        refine v_icmp_ne 54 rfl aX7_lies_41 (by omega) (by omega) (fun c41 => ?_) (fun c41 => ?_)
        · --
          refine v_aload_n aX7_lies_54 rfl ?_
          refine v_getr aX7_lies_55 fX7_44 hX.p rfl rfl ?_
          refine v_gi 2 rfl aX7_lies_58 fX7_208 hX.falseSayings.p rfl rfl ?_
          refine v_ireturn aX7_lies_61 rfl ⟨Nat.le_refl _, Nat.le_refl _⟩ ?_
          refine ⟨_, rfl, rfl, ?_, hL, hO⟩
          unfold sp_lies
          rw [if_pos (by omega), if_neg (by omega), if_neg (by omega), ← hz]
          rfl
        · --
          refine v_aload_n aX7_lies_44 rfl ?_
          refine v_getr aX7_lies_45 fX7_44 hX.p rfl rfl ?_
          refine v_gi 1 rfl aX7_lies_48 fX7_205 hX.falseSayings.p rfl rfl ?_
          refine v_goto 61 rfl aX7_lies_51 ?_
          refine v_ireturn aX7_lies_61 rfl ⟨Nat.le_refl _, Nat.le_refl _⟩ ?_
          refine ⟨_, rfl, rfl, ?_, hL, hO⟩
          unfold sp_lies
          rw [if_pos (by omega), if_neg (by omega), if_pos (by omega), ← hz]
          rfl
      · --
        refine v_aload_n aX7_lies_31 rfl ?_
        refine v_getr aX7_lies_32 fX7_44 hX.p rfl rfl ?_
        refine v_gi 0 rfl aX7_lies_35 fX7_202 hX.falseSayings.p rfl rfl ?_
        refine v_ireturn aX7_lies_38 rfl ⟨Nat.le_refl _, Nat.le_refl _⟩ ?_
        refine ⟨_, rfl, rfl, ?_, hL, hO⟩
        unfold sp_lies
        rw [if_pos (by omega), if_pos (by omega), ← hz]
        rfl
    · --
      refine v_bipush (by decide) aX7_lies_9 ?_
      refine v_ireturn aX7_lies_11 rfl ⟨Nat.le_refl _, Nat.le_refl _⟩ ?_
      rw [show sp_lies t w = -2 from if_neg (by omega)]
      exact ⟨_, rfl, rfl, rfl, h, Out.rf⟩
set_option maxHeartbeats 4000000 in
set_option maxRecDepth 100000 in
theorem li_X8_bits {X : Int} (hX : 0 ≤ X ∧ X < 4096) : ∀ (N : Nat) (i z : Int), (0 ≤ i ∧ i ≤ 12) → 12 - i < N → z = cntP (fun j => tb X j) i.toNat → V l G cX8_bits (yX8_bits, 3, (some FieldType.int), 0, 0, 0) (Ri S (bcF X) μ) (0, 0) S μ 4 [vi X, vi z, vi i] [] := by
  intro N
  induction N with
  | zero => intros; omega
  | succ N ih =>
    intro i z h0 h1 hz
    refine v_iload_n aX8_bits_4 rfl ?_
    refine v_bipush (by decide) aX8_bits_5 ?_
    refine v_icmp_ge 24 rfl aX8_bits_7 (by omega) (by omega) (fun c7 => ?_) (fun c7 => ?_)
    · --
      refine v_iload_n aX8_bits_24 rfl ?_
      refine v_ireturn aX8_bits_25 rfl ⟨Nat.le_refl _, Nat.le_refl _⟩ ?_
      obtain rfl : i = 12 := by omega
      exact ⟨by rw [(bc_r hX).1, hz]; rfl, rfl, rfl⟩
    · --
      refine v_iload_n aX8_bits_10 rfl ?_
      refine v_iload_n aX8_bits_11 rfl ?_
      refine v_iload_n aX8_bits_12 rfl ?_
      refine v_ishr aX8_bits_13 ?_
      refine v_iconst aX8_bits_14 ?_
      refine v_iand aX8_bits_15 ?_
      refine v_top (bit01 (by omega)) ?_
      refine v_iadd aX8_bits_16 ?_
      refine v_istore_n aX8_bits_17 (by decide) rfl ?_
      refine v_iinc aX8_bits_18 rfl (by decide) rfl ?_
      refine v_goto 4 rfl aX8_bits_21 ?_
      exact ih (i + 1) _ (by omega) (by omega) (by rw [cntP_s h0.1, hz])
set_option maxHeartbeats 4000000 in
set_option maxRecDepth 100000 in
theorem c_X8_bits {X : Int} (hX : 0 ≤ X ∧ X < 4096) : Ct l G cX8_bits (yX8_bits, 3, (some FieldType.int), 0, 0, 0) [vi X] S μ (Ri S (bcF X) μ) := by
  refine Ct.of (by decide) rfl (by simp [vi, Value.category]) (Nat.le_of_ble_eq_true rfl) ?_
  refine v_iconst aX8_bits_0 ?_
  refine v_istore_n aX8_bits_1 (by decide) rfl ?_
  refine v_iconst aX8_bits_2 ?_
  refine v_istore_n aX8_bits_3 (by decide) rfl ?_
  exact li_X8_bits hX 13 0 0 (by omega) (by omega) rfl
set_option maxHeartbeats 4000000 in
set_option maxRecDepth 100000 in
theorem li_X8_lies {μ0 : Mu} {w al : Int} (hM : ModS S m) (h : MbAt μ0 m t) (hok : StOk t B) (hw : 0 ≤ w ∧ w ≤ 2) (hal : al = iShl 1 t.2.1 - 1) : ∀ (N : Nat) (i fi fw ea : Int) (μ : Mu) (L : List Value), (0 ≤ i ∧ i ≤ al + 1) → al + 1 - i < N → (fw, fi, ea) = lf t (13, -6, al) i.toNat → (∀ q : Nat, q ≠ m + 8 → q ≠ m + 9 → μ q = μ0 q) → V l G cX8_lies (yX8_lies, 8, (some FieldType.int), 2, 0, 0) (Re S (fun z μ' => z = sp_lies t w ∧ ∀ q : Nat, q ≠ m + 8 → q ≠ m + 9 → μ' q = μ0 q)) (0, 0) S μ 34 ([.ref m, vi w, vi al, vi fi, vi fw, vi ea, vi i] ++ L) [] := by
  intro N
  induction N with
  | zero => intros; omega
  | succ N ih =>
    intro i fi fw ea μ L h0 h1 hT hk
    obtain ⟨o1, o2, o3, o4, o5⟩ := id hok
    obtain ⟨⟨p1, p2, p3⟩, p4⟩ := shl_13 (g := t.2.1) o2
    have ht : MbAt μ m t := (show MoAt μ0 m t (μ0 (m + 1)) (μ0 m 1) from ⟨h, rfl, rfl⟩).kp (fun i _ => by rw [hk m (by omega) (by omega)]) (fun q q0 q1 => hk q (by omega) (by omega)) |>.1
    have hfr := lf_r (t := t) (a := -6) (b := al) i.toNat (by omega)
    rw [← hT] at hfr
    dsimp only at hfr
    have hbc := fun q => bc_r (x := i) ⟨h0.1, q⟩
    have hsel : i < 4096 → (Can t (fun j => tb (iAnd al (iXor i (-1))) j) ↔ CanS t i) := fun _ => (can_sel (t := t) (fun k k0 k1 => by
      rw [tb_and, tb_not (by omega), hal, p4 k k0 (by omega)]
      exact ⟨fun q => q.2, fun q => ⟨k1, q⟩⟩)).1
    refine v_take 7 rfl ?_
    show V _ _ _ _ _ _ _ _ _ [.ref m, vi w, vi al, vi fi, vi fw, vi ea, vi i] _
    refine v_iload aX8_lies_34 rfl ?_
    refine v_iload_n aX8_lies_36 rfl ?_
    refine v_icmp_gt 122 rfl aX8_lies_37 (by omega) (by omega) (fun c37 => ?_) (fun c37 => ?_)
    · --
      refine v_iload_n aX8_lies_122 rfl ?_
      refine v_if_ne 131 rfl aX8_lies_123 (by omega) (fun c123 => ?_) (fun c123 => ?_)
      · --
        refine v_iload_n aX8_lies_131 rfl ?_
        refine v_iconst aX8_lies_132 ?_
        refine v_icmp_ne 140 rfl aX8_lies_133 (by omega) (by omega) (fun c133 => ?_) (fun c133 => ?_)
        · --
          refine v_iload aX8_lies_140 rfl ?_
          refine v_ireturn aX8_lies_142 rfl ⟨Nat.le_refl _, Nat.le_refl _⟩ ?_
          obtain rfl : i = iShl 1 t.2.1 := by omega
          refine ⟨_, rfl, rfl, ?_, hk⟩
          have e := lies_eq (a := 0) (b := 0) (a' := -6) (b' := al) hok
          unfold sp_lies
          rw [if_pos hw, if_neg (by omega), if_neg (by omega), e]
          unfold liesR
          rw [← hT]
        · --
          refine v_iload_n aX8_lies_136 rfl ?_
          refine v_goto 142 rfl aX8_lies_137 ?_
          refine v_ireturn aX8_lies_142 rfl ⟨Nat.le_refl _, Nat.le_refl _⟩ ?_
          obtain rfl : i = iShl 1 t.2.1 := by omega
          refine ⟨_, rfl, rfl, ?_, hk⟩
          have e := lies_eq (a := 0) (b := 0) (a' := -6) (b' := al) hok
          unfold sp_lies
          rw [if_pos hw, if_neg (by omega), if_pos (by omega), e]
          unfold liesR
          rw [← hT]
      · --
        refine v_iload aX8_lies_126 rfl ?_
        refine v_goto 142 rfl aX8_lies_128 ?_
        refine v_ireturn aX8_lies_142 rfl ⟨Nat.le_refl _, Nat.le_refl _⟩ ?_
        obtain rfl : i = iShl 1 t.2.1 := by omega
        refine ⟨_, rfl, rfl, ?_, hk⟩
        have e := lies_eq (a := 0) (b := 0) (a' := -6) (b' := al) hok
        unfold sp_lies
        rw [if_pos hw, if_pos (by omega), e]
        unfold liesR
        rw [← hT]
    · --
      refine v_iload aX8_lies_40 rfl ?_
      have hbc := (hbc (by omega)).2
      refine v_cSi (c_X8_bits (by omega)) aX8_lies_42 mX8_bits sX8_bits lX8_180 rfl rfl (Nat.le_of_ble_eq_true rfl) ⟨Nat.le_of_ble_eq_true rfl, Nat.le_of_ble_eq_true rfl⟩ (Nat.le_of_ble_eq_true rfl) ?_
      refine v_iload aX8_lies_45 rfl ?_
      refine v_icmp_gt 116 rfl aX8_lies_47 (by omega) (by omega) (fun c47 => ?_) (fun c47 => ?_)
      · --
        refine v_iinc aX8_lies_116 rfl (by decide) rfl ?_
        refine v_goto 34 rfl aX8_lies_119 ?_
        refine ih (i + 1) _ _ _ μ [] (by omega) (by omega) ?_ hk
        rw [lf_s h0.1, ← hT]
        unfold lstp
        rw [if_neg (fun q => by have := q.1; dsimp only at this; omega)]
      · --
        refine v_aload_n aX8_lies_50 rfl ?_
        refine v_iload_n aX8_lies_51 rfl ?_
        refine v_iload aX8_lies_52 rfl ?_
        refine v_iconst aX8_lies_54 ?_
        refine v_ixor aX8_lies_55 ?_
        refine v_iand aX8_lies_56 ?_
        refine v_cVe (c_X8_follow hM ht hok) aX8_lies_57 mX8_follow vX8_follow lX8_108 hM.p rfl rfl rfl rfl rfl (Nat.le_of_ble_eq_true rfl) ⟨Nat.le_of_ble_eq_true rfl, Nat.le_of_ble_eq_true rfl⟩ (Nat.le_of_ble_eq_true rfl) (fun z μ1 hz => ?_)
        obtain ⟨rfl, -, r2⟩ := hz
        rw [b2i_c (hsel (by omega))]
        refine v_if_eq_b 116 rfl aX8_lies_60 (fun c60 => ?_) (fun c60 => ?_)
        · --
          refine v_iinc aX8_lies_116 rfl (by decide) rfl ?_
          refine v_goto 34 rfl aX8_lies_119 ?_
          refine ih (i + 1) _ _ _ μ1 [] (by omega) (by omega) ?_ (fun q q0 q1 => (r2 q q0 q1).trans (hk q q0 q1))
          rw [lf_s h0.1, ← hT]
          unfold lstp
          rw [if_neg (fun q => c60 (b2i_1.mp q.2))]
        · --
          refine v_iload aX8_lies_63 rfl ?_
          refine v_cSi (c_X8_bits (by omega)) aX8_lies_65 mX8_bits sX8_bits lX8_180 rfl rfl (Nat.le_of_ble_eq_true rfl) ⟨Nat.le_of_ble_eq_true rfl, Nat.le_of_ble_eq_true rfl⟩ (Nat.le_of_ble_eq_true rfl) ?_
          refine v_iload aX8_lies_68 rfl ?_
          refine v_icmp_ge 77 rfl aX8_lies_70 (by omega) (by omega) (fun c70 => ?_) (fun c70 => ?_)
          · --
            refine v_iconst aX8_lies_77 ?_
            refine v_istore aX8_lies_78 (by decide) rfl ?_
            refine v_iload aX8_lies_80 rfl ?_
            refine v_if_eq 90 rfl aX8_lies_82 (by omega) (fun c82 => ?_) (fun c82 => ?_)
            · --
              refine v_iload_n aX8_lies_90 rfl ?_
              refine v_istore_n aX8_lies_91 (by decide) rfl ?_
              refine v_iload aX8_lies_92 rfl ?_
              refine v_if_eq 102 rfl aX8_lies_94 (by omega) (fun c94 => ?_) (fun c94 => ?_)
              · --
                refine v_iload aX8_lies_102 rfl ?_
                refine v_iload aX8_lies_104 rfl ?_
                refine v_iand aX8_lies_106 ?_
                refine v_istore aX8_lies_107 (by decide) rfl ?_
                refine v_iload aX8_lies_109 rfl ?_
                refine v_cSi (c_X8_bits (by omega)) aX8_lies_111 mX8_bits sX8_bits lX8_180 rfl rfl (Nat.le_of_ble_eq_true rfl) ⟨Nat.le_of_ble_eq_true rfl, Nat.le_of_ble_eq_true rfl⟩ (Nat.le_of_ble_eq_true rfl) ?_
                refine v_istore aX8_lies_114 (by decide) rfl ?_
                refine v_iinc aX8_lies_116 rfl (by decide) rfl ?_
                refine v_goto 34 rfl aX8_lies_119 ?_
                first
                  | (exfalso; omega)
                  | (refine ih (i + 1) _ _ _ μ1 [vi _] (by omega) (by omega) ?_ (fun q q0 q1 => (r2 q q0 q1).trans (hk q q0 q1))
                     rw [lf_s h0.1, ← hT]
                     unfold lstp
                     rw [if_pos ⟨by dsimp only; omega, b2i_t c60⟩, if_pos (by dsimp only; omega)])
                  | (refine ih (i + 1) _ _ _ μ1 [vi _] (by omega) (by omega) ?_ (fun q q0 q1 => (r2 q q0 q1).trans (hk q q0 q1))
                     rw [lf_s h0.1, ← hT]
                     unfold lstp
                     rw [if_pos ⟨by dsimp only; omega, b2i_t c60⟩, if_neg (by dsimp only; omega), show bcF i = fw by omega])
              · --
                refine v_iload aX8_lies_97 rfl ?_
                refine v_goto 107 rfl aX8_lies_99 ?_
                refine v_istore aX8_lies_107 (by decide) rfl ?_
                refine v_iload aX8_lies_109 rfl ?_
                refine v_cSi (c_X8_bits (by omega)) aX8_lies_111 mX8_bits sX8_bits lX8_180 rfl rfl (Nat.le_of_ble_eq_true rfl) ⟨Nat.le_of_ble_eq_true rfl, Nat.le_of_ble_eq_true rfl⟩ (Nat.le_of_ble_eq_true rfl) ?_
                refine v_istore aX8_lies_114 (by decide) rfl ?_
                refine v_iinc aX8_lies_116 rfl (by decide) rfl ?_
                refine v_goto 34 rfl aX8_lies_119 ?_
                first
                  | (exfalso; omega)
                  | (refine ih (i + 1) _ _ _ μ1 [vi _] (by omega) (by omega) ?_ (fun q q0 q1 => (r2 q q0 q1).trans (hk q q0 q1))
                     rw [lf_s h0.1, ← hT]
                     unfold lstp
                     rw [if_pos ⟨by dsimp only; omega, b2i_t c60⟩, if_pos (by dsimp only; omega)])
                  | (refine ih (i + 1) _ _ _ μ1 [vi _] (by omega) (by omega) ?_ (fun q q0 q1 => (r2 q q0 q1).trans (hk q q0 q1))
                     rw [lf_s h0.1, ← hT]
                     unfold lstp
                     rw [if_pos ⟨by dsimp only; omega, b2i_t c60⟩, if_neg (by dsimp only; omega), show bcF i = fw by omega])
            · --
              refine v_iload aX8_lies_85 rfl ?_
              refine v_goto 91 rfl aX8_lies_87 ?_
              refine v_istore_n aX8_lies_91 (by decide) rfl ?_
              refine v_iload aX8_lies_92 rfl ?_
              refine v_if_eq 102 rfl aX8_lies_94 (by omega) (fun c94 => ?_) (fun c94 => ?_)
              · --
                refine v_iload aX8_lies_102 rfl ?_
                refine v_iload aX8_lies_104 rfl ?_
                refine v_iand aX8_lies_106 ?_
                refine v_istore aX8_lies_107 (by decide) rfl ?_
                refine v_iload aX8_lies_109 rfl ?_
                refine v_cSi (c_X8_bits (by omega)) aX8_lies_111 mX8_bits sX8_bits lX8_180 rfl rfl (Nat.le_of_ble_eq_true rfl) ⟨Nat.le_of_ble_eq_true rfl, Nat.le_of_ble_eq_true rfl⟩ (Nat.le_of_ble_eq_true rfl) ?_
                refine v_istore aX8_lies_114 (by decide) rfl ?_
                refine v_iinc aX8_lies_116 rfl (by decide) rfl ?_
                refine v_goto 34 rfl aX8_lies_119 ?_
                first
                  | (exfalso; omega)
                  | (refine ih (i + 1) _ _ _ μ1 [vi _] (by omega) (by omega) ?_ (fun q q0 q1 => (r2 q q0 q1).trans (hk q q0 q1))
                     rw [lf_s h0.1, ← hT]
                     unfold lstp
                     rw [if_pos ⟨by dsimp only; omega, b2i_t c60⟩, if_pos (by dsimp only; omega)])
                  | (refine ih (i + 1) _ _ _ μ1 [vi _] (by omega) (by omega) ?_ (fun q q0 q1 => (r2 q q0 q1).trans (hk q q0 q1))
                     rw [lf_s h0.1, ← hT]
                     unfold lstp
                     rw [if_pos ⟨by dsimp only; omega, b2i_t c60⟩, if_neg (by dsimp only; omega), show bcF i = fw by omega])
              · --
                refine v_iload aX8_lies_97 rfl ?_
                refine v_goto 107 rfl aX8_lies_99 ?_
                refine v_istore aX8_lies_107 (by decide) rfl ?_
                refine v_iload aX8_lies_109 rfl ?_
                refine v_cSi (c_X8_bits (by omega)) aX8_lies_111 mX8_bits sX8_bits lX8_180 rfl rfl (Nat.le_of_ble_eq_true rfl) ⟨Nat.le_of_ble_eq_true rfl, Nat.le_of_ble_eq_true rfl⟩ (Nat.le_of_ble_eq_true rfl) ?_
                refine v_istore aX8_lies_114 (by decide) rfl ?_
                refine v_iinc aX8_lies_116 rfl (by decide) rfl ?_
                refine v_goto 34 rfl aX8_lies_119 ?_
                first
                  | (exfalso; omega)
                  | (refine ih (i + 1) _ _ _ μ1 [vi _] (by omega) (by omega) ?_ (fun q q0 q1 => (r2 q q0 q1).trans (hk q q0 q1))
                     rw [lf_s h0.1, ← hT]
                     unfold lstp
                     rw [if_pos ⟨by dsimp only; omega, b2i_t c60⟩, if_pos (by dsimp only; omega)])
                  | (refine ih (i + 1) _ _ _ μ1 [vi _] (by omega) (by omega) ?_ (fun q q0 q1 => (r2 q q0 q1).trans (hk q q0 q1))
                     rw [lf_s h0.1, ← hT]
                     unfold lstp
                     rw [if_pos ⟨by dsimp only; omega, b2i_t c60⟩, if_neg (by dsimp only; omega), show bcF i = fw by omega])
          · --
            refine v_iconst aX8_lies_73 ?_
            refine v_goto 78 rfl aX8_lies_74 ?_
            refine v_istore aX8_lies_78 (by decide) rfl ?_
            refine v_iload aX8_lies_80 rfl ?_
            refine v_if_eq 90 rfl aX8_lies_82 (by omega) (fun c82 => ?_) (fun c82 => ?_)
            · --
              refine v_iload_n aX8_lies_90 rfl ?_
              refine v_istore_n aX8_lies_91 (by decide) rfl ?_
              refine v_iload aX8_lies_92 rfl ?_
              refine v_if_eq 102 rfl aX8_lies_94 (by omega) (fun c94 => ?_) (fun c94 => ?_)
              · --
                refine v_iload aX8_lies_102 rfl ?_
                refine v_iload aX8_lies_104 rfl ?_
                refine v_iand aX8_lies_106 ?_
                refine v_istore aX8_lies_107 (by decide) rfl ?_
                refine v_iload aX8_lies_109 rfl ?_
                refine v_cSi (c_X8_bits (by omega)) aX8_lies_111 mX8_bits sX8_bits lX8_180 rfl rfl (Nat.le_of_ble_eq_true rfl) ⟨Nat.le_of_ble_eq_true rfl, Nat.le_of_ble_eq_true rfl⟩ (Nat.le_of_ble_eq_true rfl) ?_
                refine v_istore aX8_lies_114 (by decide) rfl ?_
                refine v_iinc aX8_lies_116 rfl (by decide) rfl ?_
                refine v_goto 34 rfl aX8_lies_119 ?_
                first
                  | (exfalso; omega)
                  | (refine ih (i + 1) _ _ _ μ1 [vi _] (by omega) (by omega) ?_ (fun q q0 q1 => (r2 q q0 q1).trans (hk q q0 q1))
                     rw [lf_s h0.1, ← hT]
                     unfold lstp
                     rw [if_pos ⟨by dsimp only; omega, b2i_t c60⟩, if_pos (by dsimp only; omega)])
                  | (refine ih (i + 1) _ _ _ μ1 [vi _] (by omega) (by omega) ?_ (fun q q0 q1 => (r2 q q0 q1).trans (hk q q0 q1))
                     rw [lf_s h0.1, ← hT]
                     unfold lstp
                     rw [if_pos ⟨by dsimp only; omega, b2i_t c60⟩, if_neg (by dsimp only; omega), show bcF i = fw by omega])
              · --
                refine v_iload aX8_lies_97 rfl ?_
                refine v_goto 107 rfl aX8_lies_99 ?_
                refine v_istore aX8_lies_107 (by decide) rfl ?_
                refine v_iload aX8_lies_109 rfl ?_
                refine v_cSi (c_X8_bits (by omega)) aX8_lies_111 mX8_bits sX8_bits lX8_180 rfl rfl (Nat.le_of_ble_eq_true rfl) ⟨Nat.le_of_ble_eq_true rfl, Nat.le_of_ble_eq_true rfl⟩ (Nat.le_of_ble_eq_true rfl) ?_
                refine v_istore aX8_lies_114 (by decide) rfl ?_
                refine v_iinc aX8_lies_116 rfl (by decide) rfl ?_
                refine v_goto 34 rfl aX8_lies_119 ?_
                first
                  | (exfalso; omega)
                  | (refine ih (i + 1) _ _ _ μ1 [vi _] (by omega) (by omega) ?_ (fun q q0 q1 => (r2 q q0 q1).trans (hk q q0 q1))
                     rw [lf_s h0.1, ← hT]
                     unfold lstp
                     rw [if_pos ⟨by dsimp only; omega, b2i_t c60⟩, if_pos (by dsimp only; omega)])
                  | (refine ih (i + 1) _ _ _ μ1 [vi _] (by omega) (by omega) ?_ (fun q q0 q1 => (r2 q q0 q1).trans (hk q q0 q1))
                     rw [lf_s h0.1, ← hT]
                     unfold lstp
                     rw [if_pos ⟨by dsimp only; omega, b2i_t c60⟩, if_neg (by dsimp only; omega), show bcF i = fw by omega])
            · --
              refine v_iload aX8_lies_85 rfl ?_
              refine v_goto 91 rfl aX8_lies_87 ?_
              refine v_istore_n aX8_lies_91 (by decide) rfl ?_
              refine v_iload aX8_lies_92 rfl ?_
              refine v_if_eq 102 rfl aX8_lies_94 (by omega) (fun c94 => ?_) (fun c94 => ?_)
              · --
                refine v_iload aX8_lies_102 rfl ?_
                refine v_iload aX8_lies_104 rfl ?_
                refine v_iand aX8_lies_106 ?_
                refine v_istore aX8_lies_107 (by decide) rfl ?_
                refine v_iload aX8_lies_109 rfl ?_
                refine v_cSi (c_X8_bits (by omega)) aX8_lies_111 mX8_bits sX8_bits lX8_180 rfl rfl (Nat.le_of_ble_eq_true rfl) ⟨Nat.le_of_ble_eq_true rfl, Nat.le_of_ble_eq_true rfl⟩ (Nat.le_of_ble_eq_true rfl) ?_
                refine v_istore aX8_lies_114 (by decide) rfl ?_
                refine v_iinc aX8_lies_116 rfl (by decide) rfl ?_
                refine v_goto 34 rfl aX8_lies_119 ?_
                first
                  | (exfalso; omega)
                  | (refine ih (i + 1) _ _ _ μ1 [vi _] (by omega) (by omega) ?_ (fun q q0 q1 => (r2 q q0 q1).trans (hk q q0 q1))
                     rw [lf_s h0.1, ← hT]
                     unfold lstp
                     rw [if_pos ⟨by dsimp only; omega, b2i_t c60⟩, if_pos (by dsimp only; omega)])
                  | (refine ih (i + 1) _ _ _ μ1 [vi _] (by omega) (by omega) ?_ (fun q q0 q1 => (r2 q q0 q1).trans (hk q q0 q1))
                     rw [lf_s h0.1, ← hT]
                     unfold lstp
                     rw [if_pos ⟨by dsimp only; omega, b2i_t c60⟩, if_neg (by dsimp only; omega), show bcF i = fw by omega])
              · --
                refine v_iload aX8_lies_97 rfl ?_
                refine v_goto 107 rfl aX8_lies_99 ?_
                refine v_istore aX8_lies_107 (by decide) rfl ?_
                refine v_iload aX8_lies_109 rfl ?_
                refine v_cSi (c_X8_bits (by omega)) aX8_lies_111 mX8_bits sX8_bits lX8_180 rfl rfl (Nat.le_of_ble_eq_true rfl) ⟨Nat.le_of_ble_eq_true rfl, Nat.le_of_ble_eq_true rfl⟩ (Nat.le_of_ble_eq_true rfl) ?_
                refine v_istore aX8_lies_114 (by decide) rfl ?_
                refine v_iinc aX8_lies_116 rfl (by decide) rfl ?_
                refine v_goto 34 rfl aX8_lies_119 ?_
                first
                  | (exfalso; omega)
                  | (refine ih (i + 1) _ _ _ μ1 [vi _] (by omega) (by omega) ?_ (fun q q0 q1 => (r2 q q0 q1).trans (hk q q0 q1))
                     rw [lf_s h0.1, ← hT]
                     unfold lstp
                     rw [if_pos ⟨by dsimp only; omega, b2i_t c60⟩, if_pos (by dsimp only; omega)])
                  | (refine ih (i + 1) _ _ _ μ1 [vi _] (by omega) (by omega) ?_ (fun q q0 q1 => (r2 q q0 q1).trans (hk q q0 q1))
                     rw [lf_s h0.1, ← hT]
                     unfold lstp
                     rw [if_pos ⟨by dsimp only; omega, b2i_t c60⟩, if_neg (by dsimp only; omega), show bcF i = fw by omega])
set_option maxHeartbeats 4000000 in
set_option maxRecDepth 100000 in
theorem c_X8_lies {w : Int} (hM : ModS S m) (h : MoAt μ m t g n) (hok : StOk t B) (hw : (-2147483648 ≤ w ∧ w < 2147483648)) : Ct l G cX8_lies (yX8_lies, 8, (some FieldType.int), 2, 0, 0) [.ref m, vi w] S μ (Re S (fun z μ' => z = sp_lies t w ∧ MoAt μ' m t g n ∧ Out μ μ' m 20)) := by
  obtain ⟨o1, o2, o3, o4, o5⟩ := id hok
  have t3 : μ m 3 = t.2.1 := h.1.2.1
  obtain ⟨⟨p1, p2, p3⟩, p4⟩ := shl_13 (g := t.2.1) o2
  refine Ct.mono (P := fun r S1 μ1 => ∃ z, r = some (vi z) ∧ S1 = S ∧ z = sp_lies t w ∧ ∀ q : Nat, q ≠ m + 8 → q ≠ m + 9 → μ1 q = μ q) ?_ (fun r S1 μ1 ⟨z, e1, e2, e3, hk⟩ => ⟨z, e1, e2, e3, h.kp (fun i _ => by rw [hk m (by omega) (by omega)]) (fun q q0 q1 => hk q (by omega) (by omega)), fun q hq => hk q (by omega) (by omega)⟩)
  refine Ct.of (by decide) rfl (by simp [vi, Value.category]) (Nat.le_of_ble_eq_true rfl) ?_
  refine v_iload_n aX8_lies_0 rfl ?_
  refine v_iconst aX8_lies_1 ?_
  refine v_iconst aX8_lies_2 ?_
  refine v_cSi (c_X8_in (by omega) (by decide) (by decide)) aX8_lies_3 mX8_in sX8_in lX8_79 rfl rfl (Nat.le_of_ble_eq_true rfl) ⟨Nat.le_of_ble_eq_true rfl, Nat.le_of_ble_eq_true rfl⟩ (Nat.le_of_ble_eq_true rfl) ?_
  refine v_if_ne_b 12 rfl aX8_lies_6 (fun c6 => ?_) (fun c6 => ?_)
  · --
    refine v_iconst aX8_lies_12 ?_
    refine v_aload_n aX8_lies_13 rfl ?_
    refine v_gi 3 rfl aX8_lies_14 fX8_83 hM.p rfl rfl ?_
    rw [t3]
    refine v_ishl aX8_lies_17 ?_
    refine v_iconst aX8_lies_18 ?_
    refine v_isub aX8_lies_19 ?_
    refine v_istore_n aX8_lies_20 (by decide) rfl ?_
    refine v_bipush (by decide) aX8_lies_21 ?_
    refine v_istore_n aX8_lies_23 (by decide) rfl ?_
    refine v_bipush (by decide) aX8_lies_24 ?_
    refine v_istore aX8_lies_26 (by decide) rfl ?_
    refine v_iload_n aX8_lies_28 rfl ?_
    refine v_istore aX8_lies_29 (by decide) rfl ?_
    refine v_iconst aX8_lies_31 ?_
    refine v_istore aX8_lies_32 (by decide) rfl ?_
    exact li_X8_lies hM h.1 hok (by omega) rfl 4098 0 _ _ _ μ [] (by omega) (by omega) rfl (fun q _ _ => rfl)
  · --
    refine v_bipush (by decide) aX8_lies_9 ?_
    refine v_ireturn aX8_lies_11 rfl ⟨Nat.le_refl _, Nat.le_refl _⟩ ?_
    rw [show sp_lies t w = -2 from if_neg (by omega)]
    exact ⟨_, rfl, rfl, rfl, fun q _ _ => rfl⟩
end LIL
