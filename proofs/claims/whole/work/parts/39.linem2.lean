/-! a line of known weights: the model -/
theorem surj_inj {n : Int} {f : Int → Int} (hn : 0 ≤ n) (h1 : ∀ k : Int, 0 ≤ k → k < n → 0 ≤ f k ∧ f k < n) (hs : ∀ s : Int, 0 ≤ s → s < n → ∃ k : Int, 0 ≤ k ∧ k < n ∧ f k = s) : Pm n f := by
  refine ⟨h1, fun j k j0 j1 k0 k1 e => Classical.byContradiction fun ne => ?_⟩
  have c1 : ∀ m : Nat, sumN (fun _ => 1) m = m := fun m => by
    induction m with
    | zero => rfl
    | succ m ih => show sumN (fun _ => 1) m + 1 = _; rw [ih]; rfl
  have e1 : sumN (fun s => sumN (fun k => b2i (f k = s)) n.toNat) n.toNat = n := by
    rw [sumN_swap, sumN_c (g := fun _ => 1) n.toNat (fun k k0 k1 => ?_)]
    · rw [c1]; omega
    · have hk := h1 k k0 (by omega)
      have := cnt_one (l := f k) n.toNat hk.1 (by omega)
      rw [← this]
      exact sumN_c _ (fun i _ _ => b2i_c ⟨fun q => q.symm, fun q => q.symm⟩)
  have one : ∀ s : Int, 0 ≤ s → s < n → 1 ≤ sumN (fun k => b2i (f k = s)) n.toNat := fun s s0 s1 => by
    obtain ⟨q, q0, q1, q2⟩ := hs s s0 s1
    have := cnt_grow (p := fun _ => False) (q := fun k => f k = s) (n := n.toNat) (v := q) (fun _ z => z.elim) (by omega) (fun z => z) q2
    have z0 : cntP (fun _ => False) n.toNat = 0 := sumN_0 _ (fun _ _ _ => b2i_f (fun z => z))
    rw [z0] at this
    exact this
  have two : 2 ≤ sumN (fun q => b2i (f q = f j)) n.toNat := by
    have g1 := cnt_grow (p := fun _ => False) (q := fun q => q = j) (n := n.toNat) (v := j) (fun _ z => z.elim) (by omega) (fun z => z) rfl
    have g2 := cnt_grow (p := fun q => q = j) (q := fun q => f q = f j) (n := n.toNat) (v := k) (fun i z => by rw [z]) (by omega) (fun z => ne z.symm) e.symm
    have z0 : cntP (fun _ => False) n.toNat = 0 := sumN_0 _ (fun _ _ _ => b2i_f (fun z => z))
    rw [z0] at g1
    have : cntP (fun q => f q = f j) n.toNat = sumN (fun q => b2i (f q = f j)) n.toNat := rfl
    omega
  have hj := h1 j j0 j1
  have l1 : sumN (fun s => if f j = s then 2 else 1) n.toNat ≤ sumN (fun s => sumN (fun k => b2i (f k = s)) n.toNat) n.toNat := sumN_le _ (fun s s0 s1 => by
    by_cases q : f j = s
    · rw [if_pos q, ← q]; exact two
    · rw [if_neg q]; exact one s s0 (by omega))
  have l2 : sumN (fun s => if f j = s then 2 else 1) n.toNat = sumN (fun _ => 1) n.toNat + 1 := sumN_upd (g := f j) _ (by omega) (fun i _ _ q => if_neg (fun z => q z.symm)) (by rw [if_pos rfl]; rfl)
  rw [l2, c1, e1] at l1
  omega
theorem seen_iff {n z : Int} {f : Int → Int} (hn : 2 ≤ n ∧ n ≤ 6) (hz : 0 ≤ z ∧ z.toNat < 2 ^ 10) (hf : ∀ k : Int, 0 ≤ k → k < n → 0 ≤ f k ∧ f k < 10) (hb : ∀ j : Int, 0 ≤ j → j < 10 → (tb z j ↔ ∃ k : Int, 0 ≤ k ∧ k < n ∧ f k = j)) : z = iShl 1 n - 1 ↔ Pm n f := by
  obtain ⟨⟨p1, p2, p3⟩, p4⟩ := shl_13 (g := n) (by omega)
  have hp : (2 : Nat) ^ 10 = 1024 := rfl
  constructor
  · intro e
    refine surj_inj (by omega) (fun k k0 k1 => ⟨(hf k k0 k1).1, ?_⟩) (fun s s0 s1 => ?_)
    · have := (hb (f k) (hf k k0 k1).1 (hf k k0 k1).2).mpr ⟨k, k0, k1, rfl⟩
      rw [e] at this
      exact (p4 _ (hf k k0 k1).1 (by have := (hf k k0 k1).2; omega)).mp this
    · exact (hb s s0 (by omega)).mp (by rw [e]; exact (p4 s s0 (by omega)).mpr s1)
  · intro h
    refine tb_ext (by omega) (by omega) (fun j j0 j1 => ?_)
    by_cases q : j < 10
    · rw [hb j j0 q, p4 j j0 (by omega)]
      constructor
      · rintro ⟨k, k0, k1, k2⟩
        have := (h.1 k k0 k1).2
        omega
      · intro q2
        obtain ⟨k, k0, k1⟩ := perm_ex (by omega) h j j0 q2
        exact ⟨k, k0.1, k0.2, k1⟩
    · have q2 : ¬ tb z j := tb_hi 10 hz.1 hz.2 (by omega)
      have q3 : ¬ tb (iShl 1 n - 1) j := tb_hi n.toNat (by omega) (by omega) (by omega)
      exact ⟨fun y => absurd y q2, fun y => absurd y q3⟩
section LNM
variable {l : Launch} {G : Glb} {S : Sh} {μ : Mu} {m : Nat} {t : BSt} {g : Int → Int} {n B : Int}
set_option maxHeartbeats 4000000 in
set_option maxRecDepth 100000 in
theorem li_X8_layOrder {μ0 : Mu} {x b : Int} (hM : ModS S m) (hn : 2 ≤ n ∧ n ≤ 6) (hlen : μ0 m 0 = n) (hx : 0 ≤ x ∧ x < 2147483648) (hbb : 2 ≤ b ∧ b ≤ 10) : ∀ (N : Nat) (p rest z : Int) (μ : Mu), (-1 ≤ p ∧ p < n) → p + 1 < N → rest = qd b x (n - 1 - p).toNat → (0 ≤ z ∧ z.toNat < 2 ^ 10) → (∀ j : Int, 0 ≤ j → j < 10 → (tb z j ↔ ∃ k : Int, p < k ∧ k < n ∧ dg b x n k = j)) → (∀ k : Int, p < k → k < n → μ (m + 19) k = dg b x n k) → (∀ q : Nat, q ≠ m + 19 → μ q = μ0 q) → V l G cX8_layOrder (yX8_layOrder, 6, (some FieldType.boolean), 0, 0, 0) (Re S (fun z μ' => z = b2i (Vd b n x) ∧ (∀ k : Int, 0 ≤ k → k < n → μ' (m + 19) k = dg b x n k) ∧ (∀ q : Nat, q ≠ m + 19 → μ' q = μ0 q))) (0, 0) S μ 13 [.ref m, vi x, vi b, vi rest, vi z, vi p] [] := by
  intro N
  induction N with
  | zero => intros; omega
  | succ N ih =>
    intro p rest z μ h0 h1 hrest hz hzb hd hk
    have hrr := qd_r (b := b) (by omega) hx.1 (n - 1 - p).toNat
    rw [← hrest] at hrr
    have hdg : rest % b = dg b x n p := by rw [hrest]; rfl
    have hdr : 0 ≤ dg b x n p ∧ dg b x n p < 10 := by
      have e1 := Int.emod_nonneg rest (show b ≠ 0 by omega)
      have e2 := Int.emod_lt_of_pos rest (show 0 < b by omega)
      omega
    have hdf : ∀ k : Int, 0 ≤ dg b x n k ∧ dg b x n k < 10 := fun k => by
      have e1 := Int.emod_nonneg (qd b x (n - 1 - k).toNat) (show b ≠ 0 by omega)
      have e2 := Int.emod_lt_of_pos (qd b x (n - 1 - k).toNat) (show 0 < b by omega)
      unfold dg
      omega
    have hor := or_rng (a := z) (b := iShl 1 (dg b x n p)) 10 (by decide) hz (shl1_rng 10 (by decide) (by omega))
    have f0 : μ m 0 = n := by rw [hk _ (by omega)]; exact hlen
    obtain ⟨⟨p1, p2, p3⟩, p4⟩ := shl_13 (g := n) (by omega)
    have hp10 : (2 : Nat) ^ 10 = 1024 := rfl
    refine v_iload aX8_layOrder_13 rfl ?_
    refine v_if_lt 52 rfl aX8_layOrder_15 (by omega) (fun c15 => ?_) (fun c15 => ?_)
    · --
      refine v_iload_n aX8_layOrder_52 rfl ?_
      refine v_if_ne 73 rfl aX8_layOrder_53 (by omega) (fun c53 => ?_) (fun c53 => ?_)
      · --
        refine v_iconst aX8_layOrder_73 ?_
        refine v_zreturn aX8_layOrder_74 rfl ⟨Nat.le_refl _, Nat.le_refl _⟩ (by first | exact Or.inl rfl | exact Or.inr rfl | exact b2i_01 | omega) ?_
        obtain rfl : p = -1 := by omega
        refine ⟨0, rfl, rfl, (b2i_f (fun q => c53 ?_)).symm, fun k k0 k1 => hd k (by omega) k1, hk⟩
        rw [hrest, show (n - 1 - -1).toNat = n.toNat by omega]
        exact q.1
      · --
        refine v_iload aX8_layOrder_56 rfl ?_
        refine v_iconst aX8_layOrder_58 ?_
        refine v_aload_n aX8_layOrder_59 rfl ?_
        refine v_gi 0 rfl aX8_layOrder_60 fX8_7 hM.p rfl rfl ?_
        rw [f0]
        refine v_ishl aX8_layOrder_63 ?_
        refine v_iconst aX8_layOrder_64 ?_
        refine v_isub aX8_layOrder_65 ?_
        refine v_icmp_ne 73 rfl aX8_layOrder_66 (by omega) (by omega) (fun c66 => ?_) (fun c66 => ?_)
        · --
          refine v_iconst aX8_layOrder_73 ?_
          refine v_zreturn aX8_layOrder_74 rfl ⟨Nat.le_refl _, Nat.le_refl _⟩ (by first | exact Or.inl rfl | exact Or.inr rfl | exact b2i_01 | omega) ?_
          obtain rfl : p = -1 := by omega
          have hs := seen_iff hn hz (f := dg b x n) (fun k _ _ => hdf k) (fun j j0 j1 => (hzb j j0 j1).trans ⟨fun ⟨k, k0, k1, k2⟩ => ⟨k, by omega, k1, k2⟩, fun ⟨k, k0, k1, k2⟩ => ⟨k, by omega, k1, k2⟩⟩)
          exact ⟨0, rfl, rfl, (b2i_f (fun q => c66 (hs.mpr q.2))).symm, fun k k0 k1 => hd k (by omega) k1, hk⟩
        · --
          refine v_iconst aX8_layOrder_69 ?_
          refine v_goto 74 rfl aX8_layOrder_70 ?_
          refine v_zreturn aX8_layOrder_74 rfl ⟨Nat.le_refl _, Nat.le_refl _⟩ (by first | exact Or.inl rfl | exact Or.inr rfl | exact b2i_01 | omega) ?_
          obtain rfl : p = -1 := by omega
          have hs := seen_iff hn hz (f := dg b x n) (fun k _ _ => hdf k) (fun j j0 j1 => (hzb j j0 j1).trans ⟨fun ⟨k, k0, k1, k2⟩ => ⟨k, by omega, k1, k2⟩, fun ⟨k, k0, k1, k2⟩ => ⟨k, by omega, k1, k2⟩⟩)
          refine ⟨1, rfl, rfl, (b2i_t ⟨?_, hs.mp c66⟩).symm, fun k k0 k1 => hd k (by omega) k1, hk⟩
          rw [show n.toNat = (n - 1 - -1).toNat by omega, ← hrest]
          exact c53
    · --
      refine v_aload_n aX8_layOrder_18 rfl ?_
      refine v_getr aX8_layOrder_19 fX8_70 hM.p rfl rfl ?_
      refine v_iload aX8_layOrder_22 rfl ?_
      refine v_iload_n aX8_layOrder_24 rfl ?_
      refine v_iload_n aX8_layOrder_25 rfl ?_
      refine v_irem (by omega) (by omega) aX8_layOrder_26 ?_
      refine v_top hdg ?_
      refine v_iast aX8_layOrder_27 hM.p_order (by omega) (by decide) ?_
      refine v_iload_n aX8_layOrder_28 rfl ?_
      refine v_iload_n aX8_layOrder_29 rfl ?_
      refine v_idiv (by omega) (by omega) aX8_layOrder_30 ?_
      refine v_istore_n aX8_layOrder_31 (by decide) rfl ?_
      refine v_iload aX8_layOrder_32 rfl ?_
      refine v_iconst aX8_layOrder_34 ?_
      refine v_aload_n aX8_layOrder_35 rfl ?_
      refine v_getr aX8_layOrder_36 fX8_70 hM.p rfl rfl ?_
      refine v_iload aX8_layOrder_39 rfl ?_
      refine v_iald aX8_layOrder_41 hM.p_order (by omega) (by decide) ?_
      rw [upd2_same]
      refine v_ishl aX8_layOrder_42 ?_
      refine v_ior aX8_layOrder_43 ?_
      refine v_istore aX8_layOrder_44 (by decide) rfl ?_
      refine v_iinc aX8_layOrder_46 rfl (by decide) rfl ?_
      refine v_goto 13 rfl aX8_layOrder_49 ?_
      refine ih (p + -1) _ _ _ (by omega) (by omega) ?_ hor (fun j j0 j1 => ?_) (fun k k0 k1 => ?_) (fun q q0 => (upd2_row q0).trans (hk q q0))
      · rw [show (n - 1 - (p + -1)).toNat = (n - 1 - p).toNat + 1 by omega, hrest]; rfl
      · rw [tb_or, hzb j j0 j1, tb_shl1 (by omega) (by omega)]
        constructor
        · rintro (⟨k, k0, k1, k2⟩ | q)
          · exact ⟨k, by omega, k1, k2⟩
          · exact ⟨p, by omega, by omega, q.symm⟩
        · rintro ⟨k, k0, k1, k2⟩
          by_cases q : k = p
          · right; rw [← k2, q]
          · exact Or.inl ⟨k, by omega, k1, k2⟩
      · rw [upd2_ap]
        by_cases q : k = p
        · rw [q, if_pos ⟨rfl, rfl⟩]
        · rw [if_neg (by omega)]; exact hd k (by omega) k1
set_option maxHeartbeats 4000000 in
set_option maxRecDepth 100000 in
theorem c_X8_layOrder {μ0 : Mu} {x b : Int} (hM : ModS S m) (hn : 2 ≤ n ∧ n ≤ 6) (hlen : μ0 m 0 = n) (hx : 0 ≤ x ∧ x < 2147483648) (hbb : 2 ≤ b ∧ b ≤ 10) : Ct l G cX8_layOrder (yX8_layOrder, 6, (some FieldType.boolean), 0, 0, 0) [.ref m, vi x, vi b] S μ0 (Re S (fun z μ' => z = b2i (Vd b n x) ∧ (∀ k : Int, 0 ≤ k → k < n → μ' (m + 19) k = dg b x n k) ∧ (∀ q : Nat, q ≠ m + 19 → μ' q = μ0 q))) := by
  refine Ct.of (by decide) rfl (by simp [vi, Value.category]) (Nat.le_of_ble_eq_true rfl) ?_
  refine v_iload_n aX8_layOrder_0 rfl ?_
  refine v_istore_n aX8_layOrder_1 (by decide) rfl ?_
  refine v_iconst aX8_layOrder_2 ?_
  refine v_istore aX8_layOrder_3 (by decide) rfl ?_
  refine v_aload_n aX8_layOrder_5 rfl ?_
  refine v_gi 0 rfl aX8_layOrder_6 fX8_7 hM.p rfl rfl ?_
  rw [hlen]
  refine v_iconst aX8_layOrder_9 ?_
  refine v_isub aX8_layOrder_10 ?_
  refine v_istore aX8_layOrder_11 (by decide) rfl ?_
  refine li_X8_layOrder hM hn hlen hx hbb 8 (n - 1) x 0 _ (by omega) (by omega) ?_ (by decide) (fun j j0 j1 => ⟨fun q => absurd q tb_zero, fun ⟨k, k0, k1, _⟩ => by omega⟩) (fun k k0 k1 => by omega) (fun q _ => rfl)
  rw [show (n - 1 - (n - 1)).toNat = 0 by omega]; rfl
theorem chS_s1 {T f : Int → Int} {k h : Int} (hk : 1 ≤ k) (hh : h = 0 ↔ T (f (k - 1)) = T (f k)) (a b : Int) : (chS T f k a b ∨ (h = 0 ∧ ((a = f k ∧ b = f (k - 1)) ∨ (a = f (k - 1) ∧ b = f k)))) ↔ chS T f (k + 1) a b := by
  constructor
  · rintro ((q | ⟨j, j0, j1, j2⟩) | ⟨q1, q2⟩)
    · exact Or.inl q
    · exact Or.inr ⟨j, j0, by omega, j2⟩
    · exact Or.inr ⟨k - 1, by omega, by omega, by rw [show k - 1 + 1 = k by omega]; exact ⟨hh.mp q1, q2⟩⟩
  · rintro (q | ⟨j, j0, j1, j2, j3⟩)
    · exact Or.inl (Or.inl q)
    · by_cases e : j = k - 1
      · rw [e, show k - 1 + 1 = k by omega] at j2 j3
        exact Or.inr ⟨hh.mpr j2, j3⟩
      · exact Or.inl (Or.inr ⟨j, j0, by omega, j2, j3⟩)
theorem chO_s1 {T f : Int → Int} {k h : Int} (hk : 1 ≤ k) (h1 : h = 1 ↔ T (f (k - 1)) < T (f k)) (h2 : h = 2 ↔ T (f k) < T (f (k - 1))) (a b : Int) : (chO T f k a b ∨ (h = 1 ∧ a = f k ∧ b = f (k - 1)) ∨ (h = 2 ∧ a = f (k - 1) ∧ b = f k)) ↔ chO T f (k + 1) a b := by
  constructor
  · rintro (⟨j, j0, j1, j2⟩ | ⟨q1, q2⟩ | ⟨q1, q2⟩)
    · exact ⟨j, j0, by omega, j2⟩
    · exact ⟨k - 1, by omega, by omega, by rw [show k - 1 + 1 = k by omega]; exact Or.inl ⟨h1.mp q1, q2⟩⟩
    · exact ⟨k - 1, by omega, by omega, by rw [show k - 1 + 1 = k by omega]; exact Or.inr ⟨h2.mp q1, q2⟩⟩
  · rintro ⟨j, j0, j1, j2⟩
    by_cases e : j = k - 1
    · rw [e, show k - 1 + 1 = k by omega] at j2
      exact j2.elim (fun z => Or.inr (Or.inl ⟨h1.mpr z.1, z.2⟩)) (fun z => Or.inr (Or.inr ⟨h2.mpr z.1, z.2⟩))
    · exact Or.inl ⟨j, j0, by omega, j2⟩
set_option maxHeartbeats 4000000 in
set_option maxRecDepth 100000 in
theorem li_X8_leftOpen {μ0 : Mu} (hM : ModS S m) (hn : 2 ≤ n ∧ n ≤ 6) (hlen : μ0 m 0 = n) (hp : Pm n (μ0 (m + 19))) (hT : ∀ i : Int, 0 ≤ i → i < 6 → 0 ≤ (μ0 (m + 7)) i ∧ (μ0 (m + 7)) i ≤ 99) : ∀ (N : Nat) (i : Int) (μ : Mu) (L : List Value), (1 ≤ i ∧ i ≤ n) → n - i < N → Mat (μ (m + 9)) (chS (μ0 (m + 7)) (μ0 (m + 19)) i) → Mat (μ (m + 8)) (chO (μ0 (m + 7)) (μ0 (m + 19)) i) → (∀ q : Nat, q ≠ m + 8 → q ≠ m + 9 → μ q = μ0 q) → V l G cX8_leftOpen (yX8_leftOpen, 4, (some FieldType.int), 2, 0, 0) (Re S (fun z μ' => z = opl (μ0 (m + 7)) (μ0 (m + 19)) n ∧ (∀ q : Nat, q ≠ m + 8 → q ≠ m + 9 → μ' q = μ0 q))) (0, 0) S μ 6 ([.ref m, vi i] ++ L) [] := by
  intro N
  induction N with
  | zero => intros; omega
  | succ N ih =>
    intro i μ L h0 h1 hs ho hk
    have f0 : μ m 0 = n := by rw [hk _ (by omega) (by omega)]; exact hlen
    have f7 : μ (m + 7) = μ0 (m + 7) := hk _ (by omega) (by omega)
    have f19 : μ (m + 19) = μ0 (m + 19) := hk _ (by omega) (by omega)
    have hf1 := hp.1 (i - 1) (by omega) (by omega)
    have hT1 := hT _ hf1.1 (by omega)
    have hf := fun q => hp.1 i (by omega) q
    refine v_take 2 rfl ?_
    show V _ _ _ _ _ _ _ _ _ [.ref m, vi i] _
    refine v_iload_n aX8_leftOpen_6 rfl ?_
    refine v_aload_n aX8_leftOpen_7 rfl ?_
    refine v_gi 0 rfl aX8_leftOpen_8 fX8_7 hM.p rfl rfl ?_
    rw [f0]
    refine v_icmp_ge 83 rfl aX8_leftOpen_11 (by omega) (by omega) (fun c11 => ?_) (fun c11 => ?_)
    · --
      obtain rfl : i = n := by omega
      have hP6 : Pair6 (chS (μ0 (m + 7)) (μ0 (m + 19)) i) (chO (μ0 (m + 7)) (μ0 (m + 19)) i) := ⟨chS_r, fun a b q => q.elim Or.inl (fun ⟨k, k0, k1, k2, k3⟩ => Or.inr (by
        have a1 := hp.1 k k0 (by omega)
        have a2 := hp.1 (k + 1) (by omega) (by omega)
        rcases k3 with y | y <;> omega)), fun a b ⟨k, k0, k1, k3⟩ => by
        have a1 := hp.1 k k0 (by omega)
        have a2 := hp.1 (k + 1) (by omega) (by omega)
        rcases k3 with y | y <;> omega⟩
      refine v_aload_n aX8_leftOpen_83 rfl ?_
      refine v_cVe (c_X8_close hM hP6 hs ho) aX8_leftOpen_84 mX8_close vX8_close lX8_104 hM.p rfl rfl rfl rfl rfl (Nat.le_of_ble_eq_true rfl) ⟨Nat.le_of_ble_eq_true rfl, Nat.le_of_ble_eq_true rfl⟩ (Nat.le_of_ble_eq_true rfl) (fun z μ1 ⟨k0, k1, k2, k3⟩ => ?_)
      refine v_istore_n aX8_leftOpen_87 (by decide) rfl ?_
      have hFR : FolR μ1 m (chR (μ0 (m + 7)) (μ0 (m + 19)) i) := ⟨k1.eq fun a b _ _ _ _ => (alike_iff chS_r chS_s ch_can a b).symm, k2.eq fun a b _ _ _ _ => (heavier_iff chS_r chS_s ch_can a b).symm⟩
      have hn1 : μ1 m 0 = i := by rw [k3 m (by omega) (by omega)]; exact f0
      have hzr := b2i_01 (p := ∀ v : Int, ¬ TC (rQ (chS (μ0 (m + 7)) (μ0 (m + 19)) i) (chO (μ0 (m + 7)) (μ0 (m + 19)) i)) v v)
      refine v_iload_n aX8_leftOpen_88 rfl ?_
      refine v_if_eq 99 rfl aX8_leftOpen_89 (by omega) (fun c89 => ?_) (fun c89 => ?_)
      · exact absurd (k0.trans (b2i_t ch_can)) (by omega)
      · --
        refine v_aload_n aX8_leftOpen_92 rfl ?_
        refine v_cVi (c_X8_openPairs hM hFR (by omega)) aX8_leftOpen_93 mX8_openPairs vX8_openPairs lX8_124 hM.p rfl rfl rfl rfl rfl (Nat.le_of_ble_eq_true rfl) ⟨Nat.le_of_ble_eq_true rfl, Nat.le_of_ble_eq_true rfl⟩ (Nat.le_of_ble_eq_true rfl) ?_
        refine v_goto 101 rfl aX8_leftOpen_96 ?_
        refine v_ireturn aX8_leftOpen_101 rfl ⟨Nat.le_refl _, Nat.le_refl _⟩ ?_
        refine ⟨_, rfl, rfl, ?_, fun q q0 q1 => (k3 q q0 q1).trans (hk q q0 q1)⟩
        rw [k3 m (by omega) (by omega), f0, opl_eq (by omega) hp]
    · --
      have hf := hf (by omega)
      have hT0 := hT _ hf.1 (by omega)
      refine v_aload_n aX8_leftOpen_14 rfl ?_
      refine v_getr aX8_leftOpen_15 fX8_32 hM.p rfl rfl ?_
      refine v_aload_n aX8_leftOpen_18 rfl ?_
      refine v_getr aX8_leftOpen_19 fX8_70 hM.p rfl rfl ?_
      refine v_iload_n aX8_leftOpen_22 rfl ?_
      refine v_iald aX8_leftOpen_23 hM.p_order (by omega) (by decide) ?_
      rw [f19]
      refine v_iald aX8_leftOpen_24 hM.p_weights (by omega) (by decide) ?_
      rw [f7]
      refine v_istore_n aX8_leftOpen_25 (by decide) rfl ?_
      refine v_aload_n aX8_leftOpen_26 rfl ?_
      refine v_getr aX8_leftOpen_27 fX8_32 hM.p rfl rfl ?_
      refine v_aload_n aX8_leftOpen_30 rfl ?_
      refine v_getr aX8_leftOpen_31 fX8_70 hM.p rfl rfl ?_
      refine v_iload_n aX8_leftOpen_34 rfl ?_
      refine v_iconst aX8_leftOpen_35 ?_
      refine v_isub aX8_leftOpen_36 ?_
      refine v_iald aX8_leftOpen_37 hM.p_order (by omega) (by decide) ?_
      rw [f19]
      refine v_iald aX8_leftOpen_38 hM.p_weights (by omega) (by decide) ?_
      rw [f7]
      refine v_istore_n aX8_leftOpen_39 (by decide) rfl ?_
      refine v_aload_n aX8_leftOpen_40 rfl ?_
      refine v_aload_n aX8_leftOpen_41 rfl ?_
      refine v_getr aX8_leftOpen_42 fX8_70 hM.p rfl rfl ?_
      refine v_iload_n aX8_leftOpen_45 rfl ?_
      refine v_iald aX8_leftOpen_46 hM.p_order (by omega) (by decide) ?_
      rw [f19]
      refine v_aload_n aX8_leftOpen_47 rfl ?_
      refine v_getr aX8_leftOpen_48 fX8_70 hM.p rfl rfl ?_
      refine v_iload_n aX8_leftOpen_51 rfl ?_
      refine v_iconst aX8_leftOpen_52 ?_
      refine v_isub aX8_leftOpen_53 ?_
      refine v_iald aX8_leftOpen_54 hM.p_order (by omega) (by decide) ?_
      rw [f19]
      refine v_iload_n aX8_leftOpen_55 rfl ?_
      refine v_iload_n aX8_leftOpen_56 rfl ?_
      refine v_icmp_le 64 rfl aX8_leftOpen_57 (by omega) (by omega) (fun c57 => ?_) (fun c57 => ?_)
      · --
        refine v_iload_n aX8_leftOpen_64 rfl ?_
        refine v_iload_n aX8_leftOpen_65 rfl ?_
        refine v_icmp_ge 73 rfl aX8_leftOpen_66 (by omega) (by omega) (fun c66 => ?_) (fun c66 => ?_)
        · --
          refine v_iconst aX8_leftOpen_73 ?_
          refine v_cVw (c_X8_put hM hs ho (by omega) (by omega) (by decide)) aX8_leftOpen_74 mX8_put vX8_put lX8_100 hM.p rfl rfl rfl rfl rfl (Nat.le_of_ble_eq_true rfl) ⟨Nat.le_of_ble_eq_true rfl, Nat.le_of_ble_eq_true rfl⟩ (Nat.le_of_ble_eq_true rfl) (fun μ1 ⟨k1, k2, k3⟩ => ?_)
          refine v_iinc aX8_leftOpen_77 rfl (by decide) rfl ?_
          refine v_goto 6 rfl aX8_leftOpen_80 ?_
          refine ih (i + 1) _ [vi _, vi _] (by omega) (by omega) (k1.eq (fun a c _ _ _ _ => chS_s1 h0.1 (by omega) a c)) (k2.eq (fun a c _ _ _ _ => chO_s1 h0.1 (by omega) (by omega) a c)) (fun q q0 q1 => (k3 q q0 q1).trans (hk q q0 q1))
        · --
          refine v_iconst aX8_leftOpen_69 ?_
          refine v_goto 74 rfl aX8_leftOpen_70 ?_
          refine v_cVw (c_X8_put hM hs ho (by omega) (by omega) (by decide)) aX8_leftOpen_74 mX8_put vX8_put lX8_100 hM.p rfl rfl rfl rfl rfl (Nat.le_of_ble_eq_true rfl) ⟨Nat.le_of_ble_eq_true rfl, Nat.le_of_ble_eq_true rfl⟩ (Nat.le_of_ble_eq_true rfl) (fun μ1 ⟨k1, k2, k3⟩ => ?_)
          refine v_iinc aX8_leftOpen_77 rfl (by decide) rfl ?_
          refine v_goto 6 rfl aX8_leftOpen_80 ?_
          refine ih (i + 1) _ [vi _, vi _] (by omega) (by omega) (k1.eq (fun a c _ _ _ _ => chS_s1 h0.1 (by omega) a c)) (k2.eq (fun a c _ _ _ _ => chO_s1 h0.1 (by omega) (by omega) a c)) (fun q q0 q1 => (k3 q q0 q1).trans (hk q q0 q1))
      · --
        refine v_iconst aX8_leftOpen_60 ?_
        refine v_goto 74 rfl aX8_leftOpen_61 ?_
        refine v_cVw (c_X8_put hM hs ho (by omega) (by omega) (by decide)) aX8_leftOpen_74 mX8_put vX8_put lX8_100 hM.p rfl rfl rfl rfl rfl (Nat.le_of_ble_eq_true rfl) ⟨Nat.le_of_ble_eq_true rfl, Nat.le_of_ble_eq_true rfl⟩ (Nat.le_of_ble_eq_true rfl) (fun μ1 ⟨k1, k2, k3⟩ => ?_)
        refine v_iinc aX8_leftOpen_77 rfl (by decide) rfl ?_
        refine v_goto 6 rfl aX8_leftOpen_80 ?_
        refine ih (i + 1) _ [vi _, vi _] (by omega) (by omega) (k1.eq (fun a c _ _ _ _ => chS_s1 h0.1 (by omega) a c)) (k2.eq (fun a c _ _ _ _ => chO_s1 h0.1 (by omega) (by omega) a c)) (fun q q0 q1 => (k3 q q0 q1).trans (hk q q0 q1))
set_option maxHeartbeats 4000000 in
set_option maxRecDepth 100000 in
theorem c_X8_leftOpen {μ0 : Mu} (hM : ModS S m) (hn : 2 ≤ n ∧ n ≤ 6) (hlen : μ0 m 0 = n) (hp : Pm n (μ0 (m + 19))) (hT : ∀ i : Int, 0 ≤ i → i < 6 → 0 ≤ (μ0 (m + 7)) i ∧ (μ0 (m + 7)) i ≤ 99) : Ct l G cX8_leftOpen (yX8_leftOpen, 4, (some FieldType.int), 2, 0, 0) [.ref m] S μ0 (Re S (fun z μ' => z = opl (μ0 (m + 7)) (μ0 (m + 19)) n ∧ (∀ q : Nat, q ≠ m + 8 → q ≠ m + 9 → μ' q = μ0 q))) := by
  refine Ct.of (by decide) rfl (by simp [vi, Value.category]) (Nat.le_of_ble_eq_true rfl) ?_
  refine v_aload_n aX8_leftOpen_0 rfl ?_
  refine v_cVw (c_X8_clear hM) aX8_leftOpen_1 mX8_clear vX8_clear lX8_97 hM.p rfl rfl rfl rfl rfl (Nat.le_of_ble_eq_true rfl) ⟨Nat.le_of_ble_eq_true rfl, Nat.le_of_ble_eq_true rfl⟩ (Nat.le_of_ble_eq_true rfl) (fun μ1 ⟨k1, k2, k3⟩ => ?_)
  refine v_iconst aX8_leftOpen_4 ?_
  refine v_istore_n aX8_leftOpen_5 (by decide) rfl ?_
  exact li_X8_leftOpen hM hn hlen hp hT 7 1 μ1 [] (by omega) (by omega) (k2.eq (fun a c _ _ _ _ => ⟨Or.inl, fun q => q.elim id (fun ⟨k, k0, k1, _⟩ => by omega)⟩)) (k1.eq (fun a c _ _ _ _ => ⟨False.elim, fun ⟨k, k0, k1, _⟩ => by omega⟩)) k3
set_option maxHeartbeats 4000000 in
set_option maxRecDepth 100000 in
theorem c_X8_leaves {a : Int} (hM : ModS S m) (h : MoAt μ m t g n) (hok : StOk t B) (ha : (-2147483648 ≤ a ∧ a < 2147483648)) : Ct l G cX8_leaves (yX8_leaves, 2, (some FieldType.int), 3, 0, 0) [.ref m, vi a] S μ (Re S (fun z μ' => z = sp_leaves t a ∧ MoAt μ' m t g n ∧ Out μ μ' m 20)) := by
  obtain ⟨o1, o2, o3, o4, o5⟩ := id hok
  have f0 : μ m 0 = t.1 := h.1.1
  refine Ct.of (by decide) rfl (by simp [vi, Value.category]) (Nat.le_of_ble_eq_true rfl) ?_
  refine v_iload_n aX8_leaves_0 rfl ?_
  refine v_if_lt 14 rfl aX8_leaves_1 (by omega) (fun c1 => ?_) (fun c1 => ?_)
  · --
    refine v_bipush (by decide) aX8_leaves_14 ?_
    refine v_goto 23 rfl aX8_leaves_16 ?_
    refine v_ireturn aX8_leaves_23 rfl ⟨Nat.le_refl _, Nat.le_refl _⟩ ?_
    exact ⟨_, rfl, rfl, by unfold sp_leaves; rw [if_neg (fun q => by have := (b2i_1.mp q).1; omega)], h, Out.rf⟩
  · --
    refine v_aload_n aX8_leaves_4 rfl ?_
    refine v_iload_n aX8_leaves_5 rfl ?_
    refine v_bipush (by decide) aX8_leaves_6 ?_
    refine v_cVe (c_X8_layOrder hM (n := t.1) (by omega) f0 (by omega) (by decide)) aX8_leaves_8 mX8_layOrder vX8_layOrder lX8_184 hM.p rfl rfl rfl rfl rfl (Nat.le_of_ble_eq_true rfl) ⟨Nat.le_of_ble_eq_true rfl, Nat.le_of_ble_eq_true rfl⟩ (Nat.le_of_ble_eq_true rfl) (fun z μ' ⟨r1, r2, r3⟩ => ?_)
    have hzr := b2i_01 (p := Vd 10 t.1 a)
    rw [← r1] at hzr
    have hL : MoAt μ' m t g n := h.kp (fun i _ => by rw [r3 m (by omega)]) (fun q q0 q1 => r3 q (by omega))
    have hO : Out μ μ' m 20 := fun q hq => r3 q (by omega)
    refine v_if_ne 19 rfl aX8_leaves_11 (by omega) (fun c11 => ?_) (fun c11 => ?_)
    · --
      have hv := b2i_1.mp (r1.symm.trans (show z = 1 by omega))
      have f1 : μ' m 0 = t.1 := hL.1.1
      have hpm : Pm t.1 (μ' (m + 19)) := hv.2.c r2
      have hTT : ∀ i : Int, 0 ≤ i → i < 6 → 0 ≤ μ' (m + 7) i ∧ μ' (m + 7) i ≤ 99 := fun i i0 i1 => by rw [hL.1.2.2.2.2.2.2.2.2 i i0 i1]; exact (o5 i i0 i1).2.2.2
      refine v_aload_n aX8_leaves_19 rfl ?_
      refine v_cVe (c_X8_leftOpen hM (n := t.1) (by omega) f1 hpm hTT) aX8_leaves_20 mX8_leftOpen vX8_leftOpen lX8_187 hM.p rfl rfl rfl rfl rfl (Nat.le_of_ble_eq_true rfl) ⟨Nat.le_of_ble_eq_true rfl, Nat.le_of_ble_eq_true rfl⟩ (Nat.le_of_ble_eq_true rfl) (fun z2 μ2 ⟨j1, j2⟩ => ?_)
      refine v_ireturn aX8_leaves_23 rfl ⟨Nat.le_refl _, Nat.le_refl _⟩ ?_
      refine ⟨_, rfl, rfl, ?_, hL.kp (fun i _ => by rw [j2 m (by omega) (by omega)]) (fun q q0 q1 => j2 q (by omega) (by omega)), fun q hq => (j2 q (by omega) (by omega)).trans (hO q hq)⟩
      rw [j1]
      unfold sp_leaves
      rw [if_pos (b2i_t ⟨by omega, hv⟩)]
      refine (opl_c (by omega) r2 (fun k k0 k1 => ?_)).symm
      have := hv.2.1 k k0 k1
      rw [r2 k k0 k1]
      exact hL.1.2.2.2.2.2.2.2.2 _ (by omega) (by omega)
    · --
      refine v_bipush (by decide) aX8_leaves_14 ?_
      refine v_goto 23 rfl aX8_leaves_16 ?_
      refine v_ireturn aX8_leaves_23 rfl ⟨Nat.le_refl _, Nat.le_refl _⟩ ?_
      exact ⟨_, rfl, rfl, by unfold sp_leaves; rw [if_neg (fun q => by have := b2i_t (b2i_1.mp q).2; omega)], hL, hO⟩
end LNM
