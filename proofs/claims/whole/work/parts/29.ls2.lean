/-! what follows: the calls of the class -/
noncomputable def opnN (R : Rl) (n : Int) : Int := sumN (fun i => sumN (fun o => b2i (i < o ∧ ¬ R i o ∧ ¬ R o i)) n.toNat) n.toNat
noncomputable def rkN (R : Rl) (n s e : Int) : Int := if e = 0 then cntP (fun j => Ld R j ∧ R j s ∧ ¬ R s j) n.toNat else cntP (Ld R) n.toNat - (1 + cntP (fun j => Ld R j ∧ R s j ∧ ¬ R j s) n.toNat)
def bstN (e p v : Int) : Int := if e = 0 then min p v else max p v
def payI (T : Int → Int) (e lo : Int) : Nat → Int
  | 0 => if e = 0 then 99 else 0
  | k + 1 => bstN e (payI T e lo k) (T (lo + k))
noncomputable def pay1 (T : Int → Int) (R : Rl) (n s e : Int) : Int := payI T e (rkN R n s 0) (rkN R n s 1 + 1 - rkN R n s 0).toNat
noncomputable def payA (T : Int → Int) (R : Rl) (n e : Int) : Int := sumN (fun s => pay1 T R n s e) n.toNat
def OrdA (n : Int) (R : Rl) (z : Int) : Prop := ∃ g a, WO n R g 64 ∧ Msk a (fun j => j < n ∧ Ld R j) ∧ z = g a
noncomputable def sp_follows (t : BSt) (s o : Int) : Int := if (0 ≤ s ∧ s < t.1) ∧ (0 ≤ o ∧ o < t.1) then (if b2i (Can t SA) = 1 then agn (Rg t SA) s o else -3) else -1
noncomputable def sp_open (t : BSt) (w : Int) : Int := if 0 ≤ w ∧ w ≤ 2 then (if w = 2 then b2i (Can t SA) else if b2i (Can t SA) = 1 then (if w = 0 then opnN (Rg t SA) t.1 else cntP (Ld (Rg t SA)) t.1.toNat) else -3) else -2
noncomputable def sp_rank (t : BSt) (s e : Int) : Int := if 0 ≤ s ∧ s < t.1 then (if 0 ≤ e ∧ e ≤ 1 then (if b2i (Can t SA) = 1 then rkN (Rg t SA) t.1 s e else -3) else -2) else -1
def OrdQ (t : BSt) (z : Int) : Prop := (Can t SA → OrdA t.1 (Rg t SA) z) ∧ (¬ Can t SA → z = -3)
noncomputable def sp_pays (t : BSt) (s e : Int) : Int := if s = -1 ∨ 0 ≤ s ∧ s < t.1 then (if 0 ≤ e ∧ e ≤ 1 then (if b2i (Can t SA) = 1 then (if s = -1 then payA t.2.2.2.2.2.2.2.1 (Rg t SA) t.1 e else pay1 t.2.2.2.2.2.2.2.1 (Rg t SA) t.1 s e) else -3) else -2) else -1
theorem least_ex {p : Int → Prop} : ∀ (n : Nat) (s : Int), 0 ≤ s → s < n → p s → ∃ o : Int, (0 ≤ o ∧ o ≤ s) ∧ p o ∧ ∀ q : Int, 0 ≤ q → q < o → ¬ p q
  | 0, _, _, _, _ => by omega
  | n + 1, s, h0, h1, h2 => by
    by_cases e : ∃ q : Int, 0 ≤ q ∧ q < s ∧ p q
    · obtain ⟨q, q0, q1, q2⟩ := e
      obtain ⟨o, o0, o1, o2⟩ := least_ex n q q0 (by omega) q2
      exact ⟨o, by omega, o1, o2⟩
    · exact ⟨s, by omega, h2, fun q q0 q1 q2 => e ⟨q, q0, q1, q2⟩⟩
/-- reflexive and transitive -/
def RT (R : Rl) : Prop := (∀ i, R i i) ∧ ∀ i j k, R i j → R j k → R i k
theorem RT_Rg {t : BSt} {Sel : Int → Prop} : RT (Rg t Sel) := ⟨fun i => TC.base (Or.inl (sEq_r i)), fun _ _ _ h h' => h.trans h'⟩
theorem lead_ex {R : Rl} (h : RT R) {s : Int} (hs : 0 ≤ s) : ∃ o : Int, (0 ≤ o ∧ o ≤ s) ∧ (R s o ∧ R o s) ∧ Ld R o ∧ ∀ q : Int, 0 ≤ q → q < o → ¬ (R s q ∧ R q s) := by
  obtain ⟨o, h0, h1, h2⟩ := least_ex (p := fun q => R s q ∧ R q s) (s.toNat + 1) s hs (by omega) ⟨h.1 s, h.1 s⟩
  exact ⟨o, h0, h1, fun q q0 q1 q2 => h2 q q0 q1 ⟨h.2 _ _ _ h1.1 q2.1, h.2 _ _ _ q2.2 h1.2⟩, h2⟩
theorem cnt_one {l : Int} : ∀ (n : Nat), 0 ≤ l → l < n → cntP (fun j => j = l) n = 1
  | 0, _, _ => by omega
  | n + 1, h0, h1 => by
    show cntP (fun j => j = l) n + b2i ((n : Int) = l) = 1
    by_cases e : (n : Int) = l
    · rw [b2i_t e, show cntP (fun j => j = l) n = 0 from sumN_0 n (fun i i0 i1 => b2i_f (by omega))]; rfl
    · rw [b2i_f e, cnt_one n h0 (by omega)]; rfl
theorem sumN_le {f g : Int → Int} : ∀ (n : Nat), (∀ i : Int, 0 ≤ i → i < n → f i ≤ g i) → sumN f n ≤ sumN g n
  | 0, _ => Int.le_refl _
  | n + 1, h => by
    have h1 := sumN_le n (fun i h0 h1 => h i h0 (by omega))
    have h2 := h (n : Int) (by omega) (by omega)
    show sumN f n + f (n : Int) ≤ sumN g n + g (n : Int)
    omega
theorem rk_le {R : Rl} (h : RT R) {n s : Int} (hn : 0 ≤ n ∧ n ≤ 6) (hs : 0 ≤ s ∧ s < n) : 0 ≤ rkN R n s 0 ∧ rkN R n s 0 ≤ rkN R n s 1 ∧ rkN R n s 1 < n := by
  obtain ⟨o, h0, h1, h2, -⟩ := lead_ex h hs.1
  have e1 := cnt_one (l := o) n.toNat h0.1 (by omega)
  have e2 : sumN (fun j => b2i (Ld R j ∧ R j s ∧ ¬ R s j) + b2i (Ld R j ∧ R s j ∧ ¬ R j s) + b2i (j = o)) n.toNat ≤ sumN (fun j => b2i (Ld R j)) n.toNat := sumN_le _ (fun i i0 i1 => by
    by_cases q1 : Ld R i
    · rw [b2i_t q1]
      by_cases a1 : R i s <;> by_cases a2 : R s i
      · rw [b2i_f (fun q => q.2.2 a2), b2i_f (fun q => q.2.2 a1)]
        rcases b2i_01 (p := i = o) with e | e <;> omega
      · rw [b2i_t ⟨q1, a1, a2⟩, b2i_f (fun q => a2 q.2.1), b2i_f (fun q => a2 (by rw [q]; exact h1.1))]; decide
      · rw [b2i_f (fun q => a1 q.2.1), b2i_t ⟨q1, a2, a1⟩, b2i_f (fun q => a1 (by rw [q]; exact h1.2))]; decide
      · rw [b2i_f (fun q => a1 q.2.1), b2i_f (fun q => a2 q.2.1)]
        rcases b2i_01 (p := i = o) with e | e <;> omega
    · rw [b2i_f q1, b2i_f (fun q => q1 q.1), b2i_f (fun q => q1 q.1), b2i_f (fun q => q1 (by rw [q]; exact h2))]; decide)
  rw [sumN_add, sumN_add] at e2
  have n1 := cntP_nn (p := fun j => Ld R j ∧ R j s ∧ ¬ R s j) n.toNat
  have n2 := cntP_nn (p := fun j => Ld R j ∧ R s j ∧ ¬ R j s) n.toNat
  have n3 := cntP_nn (p := Ld R) n.toNat
  unfold cntP at e1 n1 n2 n3
  unfold rkN cntP
  rw [if_pos rfl, if_neg (by decide)]
  dsimp only at n1 n2 n3 e1 e2 ⊢
  omega
theorem payI_r {T : Int → Int} {e lo : Int} : ∀ k : Nat, (∀ i : Int, lo ≤ i → i < lo + k → 0 ≤ T i ∧ T i ≤ 99) → 0 ≤ payI T e lo k ∧ payI T e lo k ≤ 99
  | 0, _ => by unfold payI; split <;> decide
  | k + 1, h => by
    have h1 := payI_r (e := e) k (fun i i0 i1 => h i i0 (by omega))
    have h2 := h (lo + k) (by omega) (by omega)
    unfold payI bstN
    split <;> omega
theorem LsAt.kp {μ μ' : Mu} {x : Nat} {t : BSt} {g : Int → Int} {n : Int} (h : LsAt μ x t g n) (e : ∀ q : Nat, x ≤ q → q < x + 22 → μ' q = μ q) : LsAt μ' x t g n := ⟨h.1.kept (fun q q0 q1 => e q (by omega) (by omega)), by rw [e _ (by omega) (by omega)]; exact h.2.1, by rw [e _ (by omega) (by omega)]; exact h.2.2⟩
def RlAt (μ : Mu) (x : Nat) (t : BSt) : Prop := Rows (μ (x + 23 + 1)) (Rg t SA) ∧ μ (x + 23) 2 = t.1 ∧ Msk (μ (x + 23) 3) (fun j => j < μ (x + 23) 2 ∧ Ld (Rg t SA) j)
section LS2
variable {l : Launch} {G : Glb} {S : Sh} {μ : Mu} {x : Nat} {im pl : Nat → Option Nat} {t : BSt} {g : Int → Int} {n B : Int}
set_option maxHeartbeats 4000000 in
set_option maxRecDepth 100000 in
theorem c_X7_isEnd {e : Int} (he : (-2147483648 ≤ e ∧ e < 2147483648)) : Ct l G cX7_isEnd (yX7_isEnd, 1, (some FieldType.boolean), 0, 0, 0) [vi e] S μ (Ri S (b2i (0 ≤ e ∧ e ≤ 1)) μ) := by
  refine Ct.of (by decide) rfl (by simp [vi, Value.category]) (Nat.le_of_ble_eq_true rfl) ?_
  refine v_iload_n aX7_isEnd_0 rfl ?_
  refine v_if_eq 9 rfl aX7_isEnd_1 (by omega) (fun c1 => ?_) (fun c1 => ?_)
  · --
    refine v_iconst aX7_isEnd_9 ?_
    refine v_goto 14 rfl aX7_isEnd_10 ?_
    refine v_zreturn aX7_isEnd_14 rfl ⟨Nat.le_refl _, Nat.le_refl _⟩ (by first | exact Or.inl rfl | exact Or.inr rfl | exact b2i_01 | omega) ?_
    first
      | exact ⟨congrArg (fun z => some (vi z)) (b2i_t (by omega)).symm, rfl, rfl⟩
      | exact ⟨congrArg (fun z => some (vi z)) (b2i_f (by omega)).symm, rfl, rfl⟩
  · --
    refine v_iload_n aX7_isEnd_4 rfl ?_
    refine v_iconst aX7_isEnd_5 ?_
    refine v_icmp_ne 13 rfl aX7_isEnd_6 (by omega) (by omega) (fun c6 => ?_) (fun c6 => ?_)
    · --
      refine v_iconst aX7_isEnd_13 ?_
      refine v_zreturn aX7_isEnd_14 rfl ⟨Nat.le_refl _, Nat.le_refl _⟩ (by first | exact Or.inl rfl | exact Or.inr rfl | exact b2i_01 | omega) ?_
      first
        | exact ⟨congrArg (fun z => some (vi z)) (b2i_t (by omega)).symm, rfl, rfl⟩
        | exact ⟨congrArg (fun z => some (vi z)) (b2i_f (by omega)).symm, rfl, rfl⟩
    · --
      refine v_iconst aX7_isEnd_9 ?_
      refine v_goto 14 rfl aX7_isEnd_10 ?_
      refine v_zreturn aX7_isEnd_14 rfl ⟨Nat.le_refl _, Nat.le_refl _⟩ (by first | exact Or.inl rfl | exact Or.inr rfl | exact b2i_01 | omega) ?_
      first
        | exact ⟨congrArg (fun z => some (vi z)) (b2i_t (by omega)).symm, rfl, rfl⟩
        | exact ⟨congrArg (fun z => some (vi z)) (b2i_f (by omega)).symm, rfl, rfl⟩
set_option maxHeartbeats 4000000 in
set_option maxRecDepth 100000 in
theorem c_X7_readBook (hX : LsS S x im pl) (h : LsAt μ x t g n) (hok : StOk t B) : Ct l G cX7_readBook (yX7_readBook, 1, (some FieldType.boolean), 5, 0, 0) [.ref x] S μ (Re S (fun z μ' => z = b2i (Can t SA) ∧ LsAt μ' x t g n ∧ Out μ μ' x 33 ∧ RlAt μ' x t)) := by
  obtain ⟨o1, o2, o3, o4, o5⟩ := id hok
  have f6 : μ (x + 3) 6 = t.1 := h.1.1
  have e0 := can_sel (t := t) (Sel := fun j => ¬ tb 0 j) (Sel' := SA) (fun k _ _ => ⟨fun _ => trivial, fun _ => tb_zero⟩)
  refine Ct.of (by decide) rfl (by simp [vi, Value.category]) (Nat.le_of_ble_eq_true rfl) ?_
  refine v_aload_n aX7_readBook_0 rfl ?_
  refine v_getr aX7_readBook_1 fX7_30 hX.p rfl rfl ?_
  refine v_aload_n aX7_readBook_4 rfl ?_
  refine v_getr aX7_readBook_5 fX7_19 hX.p rfl rfl ?_
  refine v_iconst aX7_readBook_8 ?_
  refine v_cVw (c_X4_read (lo := 0) hX.relation hX.book (by omega) h.1 hok) aX7_readBook_9 mX4_read vX4_read lX7_142 hX.relation.p rfl rfl rfl rfl rfl (Nat.le_of_ble_eq_true rfl) ⟨Nat.le_of_ble_eq_true rfl, Nat.le_of_ble_eq_true rfl⟩ (Nat.le_of_ble_eq_true rfl) (fun μ' ⟨r1, r2, r3, r5, r4⟩ => ?_)
  refine v_aload_n aX7_readBook_12 rfl ?_
  refine v_getr aX7_readBook_13 fX7_30 hX.p rfl rfl ?_
  refine v_gi 4 rfl aX7_readBook_16 fX7_146 hX.relation.p rfl rfl ?_
  rw [r3]
  refine v_zreturn aX7_readBook_19 rfl ⟨Nat.le_refl _, Nat.le_refl _⟩ (by first | exact Or.inl rfl | exact Or.inr rfl | exact b2i_01 | omega) ?_
  rw [e0.2] at r1 r5
  exact ⟨_, rfl, rfl, b2i_c e0.1, h.kp (fun q q0 q1 => r4 q (by omega) (by omega)), fun q hq => r4 q (by omega) (by omega), r1, r2, by rw [r2]; exact r5⟩
set_option maxHeartbeats 4000000 in
set_option maxRecDepth 100000 in
theorem c_X7_follows {s u : Int} (hX : LsS S x im pl) (h : LsAt μ x t g n) (hok : StOk t B) (hs : (-2147483648 ≤ s ∧ s < 2147483648)) (hu : (-2147483648 ≤ u ∧ u < 2147483648)) : Ct l G cX7_follows (yX7_follows, 3, (some FieldType.int), 6, 0, 0) [.ref x, vi s, vi u] S μ (Re S (fun z μ' => z = sp_follows t s u ∧ LsAt μ' x t g n ∧ Out μ μ' x 33)) := by
  obtain ⟨o1, o2, o3, o4, o5⟩ := id hok
  have f6 : μ (x + 3) 6 = t.1 := h.1.1
  refine Ct.of (by decide) rfl (by simp [vi, Value.category]) (Nat.le_of_ble_eq_true rfl) ?_
  refine v_aload_n aX7_follows_0 rfl ?_
  refine v_getr aX7_follows_1 fX7_19 hX.p rfl rfl ?_
  refine v_iload_n aX7_follows_4 rfl ?_
  refine v_cVi (c_X0_has hX.book (by omega) (by omega)) aX7_follows_5 mX0_has vX0_has lX7_93 hX.book.p rfl rfl rfl rfl rfl (Nat.le_of_ble_eq_true rfl) ⟨Nat.le_of_ble_eq_true rfl, Nat.le_of_ble_eq_true rfl⟩ (Nat.le_of_ble_eq_true rfl) ?_
  refine v_if_eq_b 22 rfl aX7_follows_8 (fun c8 => ?_) (fun c8 => ?_)
  · --
    refine v_iconst aX7_follows_22 ?_
    refine v_ireturn aX7_follows_23 rfl ⟨Nat.le_refl _, Nat.le_refl _⟩ ?_
    rw [show sp_follows t s u = -1 from if_neg (by omega)]
    exact ⟨_, rfl, rfl, rfl, h, Out.rf⟩
  · --
    refine v_aload_n aX7_follows_11 rfl ?_
    refine v_getr aX7_follows_12 fX7_19 hX.p rfl rfl ?_
    refine v_iload_n aX7_follows_15 rfl ?_
    refine v_cVi (c_X0_has hX.book (by omega) (by omega)) aX7_follows_16 mX0_has vX0_has lX7_93 hX.book.p rfl rfl rfl rfl rfl (Nat.le_of_ble_eq_true rfl) ⟨Nat.le_of_ble_eq_true rfl, Nat.le_of_ble_eq_true rfl⟩ (Nat.le_of_ble_eq_true rfl) ?_
    refine v_if_ne_b 24 rfl aX7_follows_19 (fun c19 => ?_) (fun c19 => ?_)
    · --
      refine v_aload_n aX7_follows_24 rfl ?_
      refine v_cVe (c_X7_readBook hX h hok) aX7_follows_25 mX7_readBook vX7_readBook lX7_97 hX.p rfl rfl rfl rfl rfl (Nat.le_of_ble_eq_true rfl) ⟨Nat.le_of_ble_eq_true rfl, Nat.le_of_ble_eq_true rfl⟩ (Nat.le_of_ble_eq_true rfl) (fun z μ' hz => ?_)
      obtain ⟨rfl, r1, r2, r3, r4, r5⟩ := hz
      refine v_if_ne_b 34 rfl aX7_follows_28 (fun c28 => ?_) (fun c28 => ?_)
      · --
        refine v_aload_n aX7_follows_34 rfl ?_
        refine v_getr aX7_follows_35 fX7_30 hX.p rfl rfl ?_
        refine v_iload_n aX7_follows_38 rfl ?_
        refine v_iload_n aX7_follows_39 rfl ?_
        refine v_cVi (c_X4_against hX.relation r3 (by omega) (by omega)) aX7_follows_40 mX4_against vX4_against lX7_101 hX.relation.p rfl rfl rfl rfl rfl (Nat.le_of_ble_eq_true rfl) ⟨Nat.le_of_ble_eq_true rfl, Nat.le_of_ble_eq_true rfl⟩ (Nat.le_of_ble_eq_true rfl) ?_
        refine v_ireturn aX7_follows_43 rfl ⟨Nat.le_refl _, Nat.le_refl _⟩ ?_
        unfold sp_follows
        rw [if_pos (by omega), if_pos (b2i_t c28)]
        exact ⟨_, rfl, rfl, rfl, r1, r2⟩
      · --
        refine v_bipush (by decide) aX7_follows_31 ?_
        refine v_ireturn aX7_follows_33 rfl ⟨Nat.le_refl _, Nat.le_refl _⟩ ?_
        unfold sp_follows
        rw [if_pos (by omega), if_neg (fun q => c28 (b2i_1.mp q))]
        exact ⟨_, rfl, rfl, rfl, r1, r2⟩
    · --
      refine v_iconst aX7_follows_22 ?_
      refine v_ireturn aX7_follows_23 rfl ⟨Nat.le_refl _, Nat.le_refl _⟩ ?_
      rw [show sp_follows t s u = -1 from if_neg (by omega)]
      exact ⟨_, rfl, rfl, rfl, h, Out.rf⟩
set_option maxHeartbeats 4000000 in
set_option maxRecDepth 100000 in
theorem c_X7_open {w : Int} (hX : LsS S x im pl) (h : LsAt μ x t g n) (hok : StOk t B) (hw : (-2147483648 ≤ w ∧ w < 2147483648)) : Ct l G cX7_open (yX7_open, 3, (some FieldType.int), 6, 0, 0) [.ref x, vi w] S μ (Re S (fun z μ' => z = sp_open t w ∧ LsAt μ' x t g n ∧ Out μ μ' x 33)) := by
  obtain ⟨o1, o2, o3, o4, o5⟩ := id hok
  have f6 : μ (x + 3) 6 = t.1 := h.1.1
  refine Ct.of (by decide) rfl (by simp [vi, Value.category]) (Nat.le_of_ble_eq_true rfl) ?_
  refine v_iload_n aX7_open_0 rfl ?_
  refine v_if_lt 9 rfl aX7_open_1 (by omega) (fun c1 => ?_) (fun c1 => ?_)
  · --
    refine v_bipush (by decide) aX7_open_9 ?_
    refine v_ireturn aX7_open_11 rfl ⟨Nat.le_refl _, Nat.le_refl _⟩ ?_
    rw [show sp_open t w = -2 from if_neg (by omega)]
    exact ⟨_, rfl, rfl, rfl, h, Out.rf⟩
  · --
    refine v_iload_n aX7_open_4 rfl ?_
    refine v_iconst aX7_open_5 ?_
    refine v_icmp_le 12 rfl aX7_open_6 (by omega) (by omega) (fun c6 => ?_) (fun c6 => ?_)
    · --
      refine v_aload_n aX7_open_12 rfl ?_
      refine v_cVe (c_X7_readBook hX h hok) aX7_open_13 mX7_readBook vX7_readBook lX7_97 hX.p rfl rfl rfl rfl rfl (Nat.le_of_ble_eq_true rfl) ⟨Nat.le_of_ble_eq_true rfl, Nat.le_of_ble_eq_true rfl⟩ (Nat.le_of_ble_eq_true rfl) (fun z μ' hz => ?_)
      obtain ⟨rfl, r1, r2, r3, r4, r5⟩ := hz
      refine v_istore_n aX7_open_16 (by decide) rfl ?_
      refine v_iload_n aX7_open_17 rfl ?_
      refine v_iconst aX7_open_18 ?_
      refine v_icmp_ne 32 rfl aX7_open_19 (by omega) (by omega) (fun c19 => ?_) (fun c19 => ?_)
      · --
        refine v_iload_n aX7_open_32 rfl ?_
        refine v_if_ne_b 39 rfl aX7_open_33 (fun c33 => ?_) (fun c33 => ?_)
        · --
          refine v_iload_n aX7_open_39 rfl ?_
          refine v_if_ne 53 rfl aX7_open_40 (by omega) (fun c40 => ?_) (fun c40 => ?_)
          · --
            refine v_aload_n aX7_open_53 rfl ?_
            refine v_getr aX7_open_54 fX7_30 hX.p rfl rfl ?_
            refine v_cVi (c_X4_groupCount hX.relation r3 (by omega) r5) aX7_open_57 mX4_groupCount vX4_groupCount lX7_109 hX.relation.p rfl rfl rfl rfl rfl (Nat.le_of_ble_eq_true rfl) ⟨Nat.le_of_ble_eq_true rfl, Nat.le_of_ble_eq_true rfl⟩ (Nat.le_of_ble_eq_true rfl) ?_
            refine v_ireturn aX7_open_60 rfl ⟨Nat.le_refl _, Nat.le_refl _⟩ ?_
            refine ⟨_, rfl, rfl, ?_, r1, r2⟩
            unfold sp_open
            rw [if_pos (by omega), if_neg (by omega), if_pos (b2i_t c33), if_neg (by omega), r4]
          · --
            refine v_aload_n aX7_open_43 rfl ?_
            refine v_getr aX7_open_44 fX7_30 hX.p rfl rfl ?_
            refine v_cVi (c_X4_openPairs hX.relation r3 (by omega)) aX7_open_47 mX4_openPairs vX4_openPairs lX7_105 hX.relation.p rfl rfl rfl rfl rfl (Nat.le_of_ble_eq_true rfl) ⟨Nat.le_of_ble_eq_true rfl, Nat.le_of_ble_eq_true rfl⟩ (Nat.le_of_ble_eq_true rfl) ?_
            refine v_goto 60 rfl aX7_open_50 ?_
            refine v_ireturn aX7_open_60 rfl ⟨Nat.le_refl _, Nat.le_refl _⟩ ?_
            refine ⟨_, rfl, rfl, ?_, r1, r2⟩
            unfold sp_open opnN
            rw [if_pos (by omega), if_neg (by omega), if_pos (b2i_t c33), if_pos (by omega), r4]
        · --
          refine v_bipush (by decide) aX7_open_36 ?_
          refine v_ireturn aX7_open_38 rfl ⟨Nat.le_refl _, Nat.le_refl _⟩ ?_
          refine ⟨_, rfl, rfl, ?_, r1, r2⟩
          unfold sp_open
          rw [if_pos (by omega), if_neg (by omega), if_neg (fun q => c33 (b2i_1.mp q))]
      · --
        refine v_iload_n aX7_open_22 rfl ?_
        refine v_if_eq_b 30 rfl aX7_open_23 (fun c23 => ?_) (fun c23 => ?_)
        · --
          refine v_iconst aX7_open_30 ?_
          refine v_ireturn aX7_open_31 rfl ⟨Nat.le_refl _, Nat.le_refl _⟩ ?_
          refine ⟨_, rfl, rfl, ?_, r1, r2⟩
          unfold sp_open
          rw [if_pos (by omega), if_pos (by omega), b2i_f c23]
        · --
          refine v_iconst aX7_open_26 ?_
          refine v_goto 31 rfl aX7_open_27 ?_
          refine v_ireturn aX7_open_31 rfl ⟨Nat.le_refl _, Nat.le_refl _⟩ ?_
          refine ⟨_, rfl, rfl, ?_, r1, r2⟩
          unfold sp_open
          rw [if_pos (by omega), if_pos (by omega), b2i_t c23]
    · --
      refine v_bipush (by decide) aX7_open_9 ?_
      refine v_ireturn aX7_open_11 rfl ⟨Nat.le_refl _, Nat.le_refl _⟩ ?_
      rw [show sp_open t w = -2 from if_neg (by omega)]
      exact ⟨_, rfl, rfl, rfl, h, Out.rf⟩
set_option maxHeartbeats 4000000 in
set_option maxRecDepth 100000 in
theorem c_X7_rank {s e : Int} (hX : LsS S x im pl) (h : LsAt μ x t g n) (hok : StOk t B) (hs : (-2147483648 ≤ s ∧ s < 2147483648)) (he : (-2147483648 ≤ e ∧ e < 2147483648)) : Ct l G cX7_rank (yX7_rank, 3, (some FieldType.int), 6, 0, 0) [.ref x, vi s, vi e] S μ (Re S (fun z μ' => z = sp_rank t s e ∧ LsAt μ' x t g n ∧ Out μ μ' x 33)) := by
  obtain ⟨o1, o2, o3, o4, o5⟩ := id hok
  have f6 : μ (x + 3) 6 = t.1 := h.1.1
  refine Ct.of (by decide) rfl (by simp [vi, Value.category]) (Nat.le_of_ble_eq_true rfl) ?_
  refine v_aload_n aX7_rank_0 rfl ?_
  refine v_getr aX7_rank_1 fX7_19 hX.p rfl rfl ?_
  refine v_iload_n aX7_rank_4 rfl ?_
  refine v_cVi (c_X0_has hX.book (by omega) (by omega)) aX7_rank_5 mX0_has vX0_has lX7_93 hX.book.p rfl rfl rfl rfl rfl (Nat.le_of_ble_eq_true rfl) ⟨Nat.le_of_ble_eq_true rfl, Nat.le_of_ble_eq_true rfl⟩ (Nat.le_of_ble_eq_true rfl) ?_
  refine v_if_ne_b 13 rfl aX7_rank_8 (fun c8 => ?_) (fun c8 => ?_)
  · --
    refine v_iload_n aX7_rank_13 rfl ?_
    refine v_cSi (c_X7_isEnd he) aX7_rank_14 mX7_isEnd sX7_isEnd lX7_112 rfl rfl (Nat.le_of_ble_eq_true rfl) ⟨Nat.le_of_ble_eq_true rfl, Nat.le_of_ble_eq_true rfl⟩ (Nat.le_of_ble_eq_true rfl) ?_
    refine v_if_ne_b 23 rfl aX7_rank_17 (fun c17 => ?_) (fun c17 => ?_)
    · --
      refine v_aload_n aX7_rank_23 rfl ?_
      refine v_cVe (c_X7_readBook hX h hok) aX7_rank_24 mX7_readBook vX7_readBook lX7_97 hX.p rfl rfl rfl rfl rfl (Nat.le_of_ble_eq_true rfl) ⟨Nat.le_of_ble_eq_true rfl, Nat.le_of_ble_eq_true rfl⟩ (Nat.le_of_ble_eq_true rfl) (fun z μ' hz => ?_)
      obtain ⟨rfl, r1, r2, r3, r4, r5⟩ := hz
      refine v_if_ne_b 33 rfl aX7_rank_27 (fun c27 => ?_) (fun c27 => ?_)
      · --
        refine v_iload_n aX7_rank_33 rfl ?_
        refine v_if_ne 48 rfl aX7_rank_34 (by omega) (fun c34 => ?_) (fun c34 => ?_)
        · --
          refine v_aload_n aX7_rank_48 rfl ?_
          refine v_getr aX7_rank_49 fX7_30 hX.p rfl rfl ?_
          refine v_iload_n aX7_rank_52 rfl ?_
          refine v_cVi (c_X4_greatestRank hX.relation r3 (by omega) r5 (by omega)) aX7_rank_53 mX4_greatestRank vX4_greatestRank lX7_118 hX.relation.p rfl rfl rfl rfl rfl (Nat.le_of_ble_eq_true rfl) ⟨Nat.le_of_ble_eq_true rfl, Nat.le_of_ble_eq_true rfl⟩ (Nat.le_of_ble_eq_true rfl) ?_
          refine v_ireturn aX7_rank_56 rfl ⟨Nat.le_refl _, Nat.le_refl _⟩ ?_
          refine ⟨_, rfl, rfl, ?_, r1, r2⟩
          unfold sp_rank rkN
          rw [if_pos (by omega), if_pos (by omega), if_pos (b2i_t c27), if_neg (by omega), r4]
        · --
          refine v_aload_n aX7_rank_37 rfl ?_
          refine v_getr aX7_rank_38 fX7_30 hX.p rfl rfl ?_
          refine v_iload_n aX7_rank_41 rfl ?_
          refine v_cVi (c_X4_leastRank hX.relation r3 (by omega) r5 (by omega)) aX7_rank_42 mX4_leastRank vX4_leastRank lX7_115 hX.relation.p rfl rfl rfl rfl rfl (Nat.le_of_ble_eq_true rfl) ⟨Nat.le_of_ble_eq_true rfl, Nat.le_of_ble_eq_true rfl⟩ (Nat.le_of_ble_eq_true rfl) ?_
          refine v_goto 56 rfl aX7_rank_45 ?_
          refine v_ireturn aX7_rank_56 rfl ⟨Nat.le_refl _, Nat.le_refl _⟩ ?_
          refine ⟨_, rfl, rfl, ?_, r1, r2⟩
          unfold sp_rank rkN
          rw [if_pos (by omega), if_pos (by omega), if_pos (b2i_t c27), if_pos (by omega), r4]
      · --
        refine v_bipush (by decide) aX7_rank_30 ?_
        refine v_ireturn aX7_rank_32 rfl ⟨Nat.le_refl _, Nat.le_refl _⟩ ?_
        unfold sp_rank
        rw [if_pos (by omega), if_pos (by omega), if_neg (fun q => c27 (b2i_1.mp q))]
        exact ⟨_, rfl, rfl, rfl, r1, r2⟩
    · --
      refine v_bipush (by decide) aX7_rank_20 ?_
      refine v_ireturn aX7_rank_22 rfl ⟨Nat.le_refl _, Nat.le_refl _⟩ ?_
      unfold sp_rank
      rw [if_pos (by omega), if_neg (by omega)]
      exact ⟨_, rfl, rfl, rfl, h, Out.rf⟩
  · --
    refine v_iconst aX7_rank_11 ?_
    refine v_ireturn aX7_rank_12 rfl ⟨Nat.le_refl _, Nat.le_refl _⟩ ?_
    rw [show sp_rank t s e = -1 from if_neg (by omega)]
    exact ⟨_, rfl, rfl, rfl, h, Out.rf⟩
set_option maxHeartbeats 4000000 in
set_option maxRecDepth 100000 in
theorem c_X7_orders (hX : LsS S x im pl) (h : LsAt μ x t g n) (hok : StOk t B) : Ct l G cX7_orders (yX7_orders, 1, (some FieldType.int), 6, 0, 0) [.ref x] S μ (Re S (fun z μ' => OrdQ t z ∧ LsAt μ' x t g n ∧ Out μ μ' x 33)) := by
  obtain ⟨o1, o2, o3, o4, o5⟩ := id hok
  have f6 : μ (x + 3) 6 = t.1 := h.1.1
  refine Ct.of (by decide) rfl (by simp [vi, Value.category]) (Nat.le_of_ble_eq_true rfl) ?_
  refine v_aload_n aX7_orders_0 rfl ?_
  refine v_cVe (c_X7_readBook hX h hok) aX7_orders_1 mX7_readBook vX7_readBook lX7_97 hX.p rfl rfl rfl rfl rfl (Nat.le_of_ble_eq_true rfl) ⟨Nat.le_of_ble_eq_true rfl, Nat.le_of_ble_eq_true rfl⟩ (Nat.le_of_ble_eq_true rfl) (fun z μ' hz => ?_)
  obtain ⟨rfl, r1, r2, r3, r4, r5⟩ := hz
  refine v_if_ne_b 10 rfl aX7_orders_4 (fun c4 => ?_) (fun c4 => ?_)
  · --
    refine v_aload_n aX7_orders_10 rfl ?_
    refine v_getr aX7_orders_11 fX7_30 hX.p rfl rfl ?_
    refine v_cVe (c_X4_orderCount hX.relation r3 (by omega) r5) aX7_orders_14 mX4_orderCount vX4_orderCount lX7_121 hX.relation.p rfl rfl rfl rfl rfl (Nat.le_of_ble_eq_true rfl) ⟨Nat.le_of_ble_eq_true rfl, Nat.le_of_ble_eq_true rfl⟩ (Nat.le_of_ble_eq_true rfl) (fun z2 μ2 hz2 => ?_)
    refine v_ireturn aX7_orders_17 rfl ⟨Nat.le_refl _, Nat.le_refl _⟩ ?_
    obtain ⟨g', a, rfl, w1, w2, w3⟩ := hz2
    rw [r4] at w1 w2
    exact ⟨_, rfl, rfl, ⟨fun _ => ⟨g', a, w1, w2, w3⟩, fun q => absurd c4 q⟩, r1.kp (fun q q0 q1 => row_ne (by omega)), fun q hq => (row_ne (by omega)).trans (r2 q hq)⟩
  · --
    refine v_bipush (by decide) aX7_orders_7 ?_
    refine v_ireturn aX7_orders_9 rfl ⟨Nat.le_refl _, Nat.le_refl _⟩ ?_
    exact ⟨_, rfl, rfl, ⟨fun q => absurd q c4, fun _ => rfl⟩, r1, r2⟩
set_option maxHeartbeats 4000000 in
set_option maxRecDepth 100000 in
theorem li_X7_paymentOf {s e lo hh : Int} (hX : LsS S x im pl) (h : LsAt μ x t g n) (hok : StOk t B) (hr : RlAt μ x t) (hs : 0 ≤ s ∧ s < t.1) (he : 0 ≤ e ∧ e ≤ 1) (hlo : lo = rkN (Rg t SA) t.1 s 0) (hhi : hh = rkN (Rg t SA) t.1 s 1) : ∀ (N : Nat) (r p : Int) (L : List Value), (lo ≤ r ∧ r ≤ hh + 1) → hh + 1 - r < N → p = payI t.2.2.2.2.2.2.2.1 e lo (r - lo).toNat → V l G cX7_paymentOf (yX7_paymentOf, 7, (some FieldType.int), 6, 0, 0) (Ri S (pay1 t.2.2.2.2.2.2.2.1 (Rg t SA) t.1 s e) μ) (0, 0) S μ 31 ([.ref x, vi s, vi e, vi hh, vi p, vi r] ++ L) [] := by
  intro N
  induction N with
  | zero => intros; omega
  | succ N ih =>
    intro r p L h0 h1 hp
    obtain ⟨o1, o2, o3, o4, o5⟩ := id hok
    have hrk := rk_le (R := Rg t SA) (n := t.1) (s := s) RT_Rg (by omega) (by omega)
    rw [← hlo, ← hhi] at hrk
    have hpr := payI_r (T := t.2.2.2.2.2.2.2.1) (e := e) (lo := lo) (r - lo).toNat (fun i i0 i1 => (o5 i (by omega) (by omega)).2.2.1)
    rw [← hp] at hpr
    refine v_take 6 rfl ?_
    show V _ _ _ _ _ _ _ _ _ [.ref x, vi s, vi e, vi hh, vi p, vi r] _
    refine v_iload aX7_paymentOf_31 rfl ?_
    refine v_iload_n aX7_paymentOf_33 rfl ?_
    refine v_icmp_gt 85 rfl aX7_paymentOf_34 (by omega) (by omega) (fun c34 => ?_) (fun c34 => ?_)
    · --
      refine v_iload aX7_paymentOf_85 rfl ?_
      refine v_ireturn aX7_paymentOf_87 rfl ⟨Nat.le_refl _, Nat.le_refl _⟩ ?_
      obtain rfl : r = hh + 1 := by omega
      subst hlo hhi
      exact ⟨by rw [hp]; rfl, rfl, rfl⟩
    · --
      refine v_iload aX7_paymentOf_37 rfl ?_
      refine v_bipush (by decide) aX7_paymentOf_39 ?_
      refine v_icmp_ge 85 rfl aX7_paymentOf_41 (by omega) (by omega) (fun c41 => ?_) (fun c41 => ?_)
      · omega
      · --
        refine v_aload_n aX7_paymentOf_44 rfl ?_
        refine v_getr aX7_paymentOf_45 fX7_19 hX.p rfl rfl ?_
        refine v_getr aX7_paymentOf_48 fX7_124 hX.book.p rfl rfl ?_
        refine v_iload aX7_paymentOf_51 rfl ?_
        refine v_iald aX7_paymentOf_53 hX.book.p_tolls (by omega) (by decide) ?_
        rw [h.1.2.2.2.2.2.2.2.1 r (by omega) (by omega)]
        have htr := (o5 r (by omega) (by omega)).2.2.1
        refine v_istore aX7_paymentOf_54 (by decide) rfl ?_
        refine v_iload_n aX7_paymentOf_56 rfl ?_
        refine v_if_ne 70 rfl aX7_paymentOf_57 (by omega) (fun c57 => ?_) (fun c57 => ?_)
        · --
          refine v_iload aX7_paymentOf_70 rfl ?_
          refine v_iload aX7_paymentOf_72 rfl ?_
          refine v_max (by omega) (by omega) lmX7_139 aX7_paymentOf_74 (Nat.le_of_ble_eq_true rfl) ⟨Nat.le_of_ble_eq_true rfl, Nat.le_of_ble_eq_true rfl⟩ (Nat.le_of_ble_eq_true rfl) ?_
          refine v_istore aX7_paymentOf_77 (by decide) rfl ?_
          refine v_iinc aX7_paymentOf_79 rfl (by decide) rfl ?_
          refine v_goto 31 rfl aX7_paymentOf_82 ?_
          refine ih (r + 1) _ [vi _] (by omega) (by omega) ?_
          rw [show (r + 1 - lo).toNat = (r - lo).toNat + 1 by omega]
          unfold payI bstN
          rw [if_neg (by omega), ← hp, show lo + ((r - lo).toNat : Int) = r by omega]
        · --
          refine v_iload aX7_paymentOf_60 rfl ?_
          refine v_iload aX7_paymentOf_62 rfl ?_
          refine v_min (by omega) (by omega) lmX7_134 aX7_paymentOf_64 (Nat.le_of_ble_eq_true rfl) ⟨Nat.le_of_ble_eq_true rfl, Nat.le_of_ble_eq_true rfl⟩ (Nat.le_of_ble_eq_true rfl) ?_
          refine v_goto 77 rfl aX7_paymentOf_67 ?_
          refine v_istore aX7_paymentOf_77 (by decide) rfl ?_
          refine v_iinc aX7_paymentOf_79 rfl (by decide) rfl ?_
          refine v_goto 31 rfl aX7_paymentOf_82 ?_
          refine ih (r + 1) _ [vi _] (by omega) (by omega) ?_
          rw [show (r + 1 - lo).toNat = (r - lo).toNat + 1 by omega]
          unfold payI bstN
          rw [if_pos (by omega), ← hp, show lo + ((r - lo).toNat : Int) = r by omega]
set_option maxHeartbeats 4000000 in
set_option maxRecDepth 100000 in
theorem c_X7_paymentOf {s e : Int} (hX : LsS S x im pl) (h : LsAt μ x t g n) (hok : StOk t B) (hr : RlAt μ x t) (hs : 0 ≤ s ∧ s < t.1) (he : 0 ≤ e ∧ e ≤ 1) : Ct l G cX7_paymentOf (yX7_paymentOf, 7, (some FieldType.int), 6, 0, 0) [.ref x, vi s, vi e] S μ (Ri S (pay1 t.2.2.2.2.2.2.2.1 (Rg t SA) t.1 s e) μ) := by
  obtain ⟨o1, o2, o3, o4, o5⟩ := id hok
  have r4 := hr.2.1
  have hrk := rk_le (R := Rg t SA) (n := t.1) (s := s) RT_Rg (by omega) (by omega)
  have q0 : rkN (Rg t SA) t.1 s 0 = cntP (fun j => Ld (Rg t SA) j ∧ Rg t SA j s ∧ ¬ Rg t SA s j) (μ (x + 23) 2).toNat := by rw [r4]; exact if_pos rfl
  have q1 : rkN (Rg t SA) t.1 s 1 = cntP (Ld (Rg t SA)) (μ (x + 23) 2).toNat - (1 + cntP (fun j => Ld (Rg t SA) j ∧ Rg t SA s j ∧ ¬ Rg t SA j s) (μ (x + 23) 2).toNat) := by rw [r4]; exact if_neg (by decide)
  refine Ct.of (by decide) rfl (by simp [vi, Value.category]) (Nat.le_of_ble_eq_true rfl) ?_
  refine v_aload_n aX7_paymentOf_0 rfl ?_
  refine v_getr aX7_paymentOf_1 fX7_30 hX.p rfl rfl ?_
  refine v_iload_n aX7_paymentOf_4 rfl ?_
  refine v_cVi (c_X4_greatestRank hX.relation hr.1 (by omega) hr.2.2 (by omega)) aX7_paymentOf_5 mX4_greatestRank vX4_greatestRank lX7_118 hX.relation.p rfl rfl rfl rfl rfl (Nat.le_of_ble_eq_true rfl) ⟨Nat.le_of_ble_eq_true rfl, Nat.le_of_ble_eq_true rfl⟩ (Nat.le_of_ble_eq_true rfl) ?_
  refine v_top q1.symm ?_
  refine v_istore_n aX7_paymentOf_8 (by decide) rfl ?_
  refine v_iload_n aX7_paymentOf_9 rfl ?_
  refine v_if_ne 18 rfl aX7_paymentOf_10 (by omega) (fun c10 => ?_) (fun c10 => ?_)
  · --
    refine v_iconst aX7_paymentOf_18 ?_
    refine v_istore aX7_paymentOf_19 (by decide) rfl ?_
    refine v_aload_n aX7_paymentOf_21 rfl ?_
    refine v_getr aX7_paymentOf_22 fX7_30 hX.p rfl rfl ?_
    refine v_iload_n aX7_paymentOf_25 rfl ?_
    refine v_cVi (c_X4_leastRank hX.relation hr.1 (by omega) hr.2.2 (by omega)) aX7_paymentOf_26 mX4_leastRank vX4_leastRank lX7_115 hX.relation.p rfl rfl rfl rfl rfl (Nat.le_of_ble_eq_true rfl) ⟨Nat.le_of_ble_eq_true rfl, Nat.le_of_ble_eq_true rfl⟩ (Nat.le_of_ble_eq_true rfl) ?_
    refine v_top q0.symm ?_
    refine v_istore aX7_paymentOf_29 (by decide) rfl ?_
    exact li_X7_paymentOf hX h hok hr hs he rfl rfl 8 _ _ [] (by omega) (by omega) (by rw [show ∀ a : Int, (a - a).toNat = 0 from fun a => by omega]; unfold payI; first | rw [if_pos (by omega)] | rw [if_neg (by omega)])
  · --
    refine v_bipush (by decide) aX7_paymentOf_13 ?_
    refine v_goto 19 rfl aX7_paymentOf_15 ?_
    refine v_istore aX7_paymentOf_19 (by decide) rfl ?_
    refine v_aload_n aX7_paymentOf_21 rfl ?_
    refine v_getr aX7_paymentOf_22 fX7_30 hX.p rfl rfl ?_
    refine v_iload_n aX7_paymentOf_25 rfl ?_
    refine v_cVi (c_X4_leastRank hX.relation hr.1 (by omega) hr.2.2 (by omega)) aX7_paymentOf_26 mX4_leastRank vX4_leastRank lX7_115 hX.relation.p rfl rfl rfl rfl rfl (Nat.le_of_ble_eq_true rfl) ⟨Nat.le_of_ble_eq_true rfl, Nat.le_of_ble_eq_true rfl⟩ (Nat.le_of_ble_eq_true rfl) ?_
    refine v_top q0.symm ?_
    refine v_istore aX7_paymentOf_29 (by decide) rfl ?_
    exact li_X7_paymentOf hX h hok hr hs he rfl rfl 8 _ _ [] (by omega) (by omega) (by rw [show ∀ a : Int, (a - a).toNat = 0 from fun a => by omega]; unfold payI; first | rw [if_pos (by omega)] | rw [if_neg (by omega)])
set_option maxHeartbeats 4000000 in
set_option maxRecDepth 100000 in
theorem li_X7_paymentOfAll {e : Int} (hX : LsS S x im pl) (h : LsAt μ x t g n) (hok : StOk t B) (hr : RlAt μ x t) (he : 0 ≤ e ∧ e ≤ 1) : ∀ (N : Nat) (i z : Int), (0 ≤ i ∧ i ≤ t.1) → t.1 - i < N → z = sumN (fun s => pay1 t.2.2.2.2.2.2.2.1 (Rg t SA) t.1 s e) i.toNat → V l G cX7_paymentOfAll (yX7_paymentOfAll, 4, (some FieldType.int), 7, 0, 0) (Ri S (payA t.2.2.2.2.2.2.2.1 (Rg t SA) t.1 e) μ) (0, 0) S μ 4 [.ref x, vi e, vi z, vi i] [] := by
  intro N
  induction N with
  | zero => intros; omega
  | succ N ih =>
    intro i z h0 h1 hz
    obtain ⟨o1, o2, o3, o4, o5⟩ := id hok
    have f6 : μ (x + 3) 6 = t.1 := h.1.1
    refine v_iload_n aX7_paymentOfAll_4 rfl ?_
    refine v_aload_n aX7_paymentOfAll_5 rfl ?_
    refine v_getr aX7_paymentOfAll_6 fX7_19 hX.p rfl rfl ?_
    refine v_gi 6 rfl aX7_paymentOfAll_9 fX7_61 hX.book.p rfl rfl ?_
    rw [f6]
    refine v_icmp_ge 30 rfl aX7_paymentOfAll_12 (by omega) (by omega) (fun c12 => ?_) (fun c12 => ?_)
    · --
      refine v_iload_n aX7_paymentOfAll_30 rfl ?_
      refine v_ireturn aX7_paymentOfAll_31 rfl ⟨Nat.le_refl _, Nat.le_refl _⟩ ?_
      obtain rfl : i = t.1 := by omega
      exact ⟨by rw [hz]; rfl, rfl, rfl⟩
    · --
      refine v_iload_n aX7_paymentOfAll_15 rfl ?_
      refine v_aload_n aX7_paymentOfAll_16 rfl ?_
      refine v_iload_n aX7_paymentOfAll_17 rfl ?_
      refine v_iload_n aX7_paymentOfAll_18 rfl ?_
      refine v_cVi (c_X7_paymentOf hX h hok hr (by omega) he) aX7_paymentOfAll_19 mX7_paymentOf vX7_paymentOf lX7_131 hX.p rfl rfl rfl rfl rfl (Nat.le_of_ble_eq_true rfl) ⟨Nat.le_of_ble_eq_true rfl, Nat.le_of_ble_eq_true rfl⟩ (Nat.le_of_ble_eq_true rfl) ?_
      refine v_iadd aX7_paymentOfAll_22 ?_
      refine v_istore_n aX7_paymentOfAll_23 (by decide) rfl ?_
      refine v_iinc aX7_paymentOfAll_24 rfl (by decide) rfl ?_
      refine v_goto 4 rfl aX7_paymentOfAll_27 ?_
      refine ih (i + 1) _ (by omega) (by omega) ?_
      rw [sumN_s h0.1, hz]
set_option maxHeartbeats 4000000 in
set_option maxRecDepth 100000 in
theorem c_X7_paymentOfAll {e : Int} (hX : LsS S x im pl) (h : LsAt μ x t g n) (hok : StOk t B) (hr : RlAt μ x t) (he : 0 ≤ e ∧ e ≤ 1) : Ct l G cX7_paymentOfAll (yX7_paymentOfAll, 4, (some FieldType.int), 7, 0, 0) [.ref x, vi e] S μ (Ri S (payA t.2.2.2.2.2.2.2.1 (Rg t SA) t.1 e) μ) := by
  obtain ⟨o1, o2, o3, o4, o5⟩ := id hok
  refine Ct.of (by decide) rfl (by simp [vi, Value.category]) (Nat.le_of_ble_eq_true rfl) ?_
  refine v_iconst aX7_paymentOfAll_0 ?_
  refine v_istore_n aX7_paymentOfAll_1 (by decide) rfl ?_
  refine v_iconst aX7_paymentOfAll_2 ?_
  refine v_istore_n aX7_paymentOfAll_3 (by decide) rfl ?_
  exact li_X7_paymentOfAll hX h hok hr he 7 0 0 (by omega) (by omega) rfl
set_option maxHeartbeats 4000000 in
set_option maxRecDepth 100000 in
theorem c_X7_pays {s e : Int} (hX : LsS S x im pl) (h : LsAt μ x t g n) (hok : StOk t B) (hs : (-2147483648 ≤ s ∧ s < 2147483648)) (he : (-2147483648 ≤ e ∧ e < 2147483648)) : Ct l G cX7_pays (yX7_pays, 3, (some FieldType.int), 8, 0, 0) [.ref x, vi s, vi e] S μ (Re S (fun z μ' => z = sp_pays t s e ∧ LsAt μ' x t g n ∧ Out μ μ' x 33)) := by
  obtain ⟨o1, o2, o3, o4, o5⟩ := id hok
  have f6 : μ (x + 3) 6 = t.1 := h.1.1
  refine Ct.of (by decide) rfl (by simp [vi, Value.category]) (Nat.le_of_ble_eq_true rfl) ?_
  refine v_iload_n aX7_pays_0 rfl ?_
  refine v_iconst aX7_pays_1 ?_
  refine v_icmp_eq 18 rfl aX7_pays_2 (by omega) (by omega) (fun c2 => ?_) (fun c2 => ?_)
  · --
    refine v_iload_n aX7_pays_18 rfl ?_
    refine v_cSi (c_X7_isEnd he) aX7_pays_19 mX7_isEnd sX7_isEnd lX7_112 rfl rfl (Nat.le_of_ble_eq_true rfl) ⟨Nat.le_of_ble_eq_true rfl, Nat.le_of_ble_eq_true rfl⟩ (Nat.le_of_ble_eq_true rfl) ?_
    refine v_if_ne_b 28 rfl aX7_pays_22 (fun c22 => ?_) (fun c22 => ?_)
    · --
      refine v_aload_n aX7_pays_28 rfl ?_
      refine v_cVe (c_X7_readBook hX h hok) aX7_pays_29 mX7_readBook vX7_readBook lX7_97 hX.p rfl rfl rfl rfl rfl (Nat.le_of_ble_eq_true rfl) ⟨Nat.le_of_ble_eq_true rfl, Nat.le_of_ble_eq_true rfl⟩ (Nat.le_of_ble_eq_true rfl) (fun z μ' hz => ?_)
      obtain ⟨rfl, r1, r2, r3, r4, r5⟩ := hz
      refine v_if_ne_b 38 rfl aX7_pays_32 (fun c32 => ?_) (fun c32 => ?_)
      · --
        refine v_iload_n aX7_pays_38 rfl ?_
        refine v_iconst aX7_pays_39 ?_
        refine v_icmp_ne 51 rfl aX7_pays_40 (by omega) (by omega) (fun c40 => ?_) (fun c40 => ?_)
        · --
          refine v_aload_n aX7_pays_51 rfl ?_
          refine v_iload_n aX7_pays_52 rfl ?_
          refine v_iload_n aX7_pays_53 rfl ?_
          refine v_cVi (c_X7_paymentOf hX r1 hok ⟨r3, r4, r5⟩ (by omega) (by omega)) aX7_pays_54 mX7_paymentOf vX7_paymentOf lX7_131 hX.p rfl rfl rfl rfl rfl (Nat.le_of_ble_eq_true rfl) ⟨Nat.le_of_ble_eq_true rfl, Nat.le_of_ble_eq_true rfl⟩ (Nat.le_of_ble_eq_true rfl) ?_
          refine v_ireturn aX7_pays_57 rfl ⟨Nat.le_refl _, Nat.le_refl _⟩ ?_
          refine ⟨_, rfl, rfl, ?_, r1, r2⟩
          unfold sp_pays
          rw [if_pos (by omega), if_pos (by omega), if_pos (b2i_t c32), if_neg (by omega)]
        · --
          refine v_aload_n aX7_pays_43 rfl ?_
          refine v_iload_n aX7_pays_44 rfl ?_
          refine v_cVi (c_X7_paymentOfAll hX r1 hok ⟨r3, r4, r5⟩ (by omega)) aX7_pays_45 mX7_paymentOfAll vX7_paymentOfAll lX7_128 hX.p rfl rfl rfl rfl rfl (Nat.le_of_ble_eq_true rfl) ⟨Nat.le_of_ble_eq_true rfl, Nat.le_of_ble_eq_true rfl⟩ (Nat.le_of_ble_eq_true rfl) ?_
          refine v_goto 57 rfl aX7_pays_48 ?_
          refine v_ireturn aX7_pays_57 rfl ⟨Nat.le_refl _, Nat.le_refl _⟩ ?_
          refine ⟨_, rfl, rfl, ?_, r1, r2⟩
          unfold sp_pays
          rw [if_pos (by omega), if_pos (by omega), if_pos (b2i_t c32), if_pos (by omega)]
      · --
        refine v_bipush (by decide) aX7_pays_35 ?_
        refine v_ireturn aX7_pays_37 rfl ⟨Nat.le_refl _, Nat.le_refl _⟩ ?_
        unfold sp_pays
        rw [if_pos (by omega), if_pos (by omega), if_neg (fun q => c32 (b2i_1.mp q))]
        exact ⟨_, rfl, rfl, rfl, r1, r2⟩
    · --
      refine v_bipush (by decide) aX7_pays_25 ?_
      refine v_ireturn aX7_pays_27 rfl ⟨Nat.le_refl _, Nat.le_refl _⟩ ?_
      unfold sp_pays
      rw [if_pos (by omega), if_neg (by omega)]
      exact ⟨_, rfl, rfl, rfl, h, Out.rf⟩
  · --
    refine v_aload_n aX7_pays_5 rfl ?_
    refine v_getr aX7_pays_6 fX7_19 hX.p rfl rfl ?_
    refine v_iload_n aX7_pays_9 rfl ?_
    refine v_cVi (c_X0_has hX.book (by omega) (by omega)) aX7_pays_10 mX0_has vX0_has lX7_93 hX.book.p rfl rfl rfl rfl rfl (Nat.le_of_ble_eq_true rfl) ⟨Nat.le_of_ble_eq_true rfl, Nat.le_of_ble_eq_true rfl⟩ (Nat.le_of_ble_eq_true rfl) ?_
    refine v_if_ne_b 18 rfl aX7_pays_13 (fun c13 => ?_) (fun c13 => ?_)
    · --
      refine v_iload_n aX7_pays_18 rfl ?_
      refine v_cSi (c_X7_isEnd he) aX7_pays_19 mX7_isEnd sX7_isEnd lX7_112 rfl rfl (Nat.le_of_ble_eq_true rfl) ⟨Nat.le_of_ble_eq_true rfl, Nat.le_of_ble_eq_true rfl⟩ (Nat.le_of_ble_eq_true rfl) ?_
      refine v_if_ne_b 28 rfl aX7_pays_22 (fun c22 => ?_) (fun c22 => ?_)
      · --
        refine v_aload_n aX7_pays_28 rfl ?_
        refine v_cVe (c_X7_readBook hX h hok) aX7_pays_29 mX7_readBook vX7_readBook lX7_97 hX.p rfl rfl rfl rfl rfl (Nat.le_of_ble_eq_true rfl) ⟨Nat.le_of_ble_eq_true rfl, Nat.le_of_ble_eq_true rfl⟩ (Nat.le_of_ble_eq_true rfl) (fun z μ' hz => ?_)
        obtain ⟨rfl, r1, r2, r3, r4, r5⟩ := hz
        refine v_if_ne_b 38 rfl aX7_pays_32 (fun c32 => ?_) (fun c32 => ?_)
        · --
          refine v_iload_n aX7_pays_38 rfl ?_
          refine v_iconst aX7_pays_39 ?_
          refine v_icmp_ne 51 rfl aX7_pays_40 (by omega) (by omega) (fun c40 => ?_) (fun c40 => ?_)
          · --
            refine v_aload_n aX7_pays_51 rfl ?_
            refine v_iload_n aX7_pays_52 rfl ?_
            refine v_iload_n aX7_pays_53 rfl ?_
            refine v_cVi (c_X7_paymentOf hX r1 hok ⟨r3, r4, r5⟩ (by omega) (by omega)) aX7_pays_54 mX7_paymentOf vX7_paymentOf lX7_131 hX.p rfl rfl rfl rfl rfl (Nat.le_of_ble_eq_true rfl) ⟨Nat.le_of_ble_eq_true rfl, Nat.le_of_ble_eq_true rfl⟩ (Nat.le_of_ble_eq_true rfl) ?_
            refine v_ireturn aX7_pays_57 rfl ⟨Nat.le_refl _, Nat.le_refl _⟩ ?_
            refine ⟨_, rfl, rfl, ?_, r1, r2⟩
            unfold sp_pays
            rw [if_pos (by omega), if_pos (by omega), if_pos (b2i_t c32), if_neg (by omega)]
          · --
            refine v_aload_n aX7_pays_43 rfl ?_
            refine v_iload_n aX7_pays_44 rfl ?_
            refine v_cVi (c_X7_paymentOfAll hX r1 hok ⟨r3, r4, r5⟩ (by omega)) aX7_pays_45 mX7_paymentOfAll vX7_paymentOfAll lX7_128 hX.p rfl rfl rfl rfl rfl (Nat.le_of_ble_eq_true rfl) ⟨Nat.le_of_ble_eq_true rfl, Nat.le_of_ble_eq_true rfl⟩ (Nat.le_of_ble_eq_true rfl) ?_
            refine v_goto 57 rfl aX7_pays_48 ?_
            refine v_ireturn aX7_pays_57 rfl ⟨Nat.le_refl _, Nat.le_refl _⟩ ?_
            refine ⟨_, rfl, rfl, ?_, r1, r2⟩
            unfold sp_pays
            rw [if_pos (by omega), if_pos (by omega), if_pos (b2i_t c32), if_pos (by omega)]
        · --
          refine v_bipush (by decide) aX7_pays_35 ?_
          refine v_ireturn aX7_pays_37 rfl ⟨Nat.le_refl _, Nat.le_refl _⟩ ?_
          unfold sp_pays
          rw [if_pos (by omega), if_pos (by omega), if_neg (fun q => c32 (b2i_1.mp q))]
          exact ⟨_, rfl, rfl, rfl, r1, r2⟩
      · --
        refine v_bipush (by decide) aX7_pays_25 ?_
        refine v_ireturn aX7_pays_27 rfl ⟨Nat.le_refl _, Nat.le_refl _⟩ ?_
        unfold sp_pays
        rw [if_pos (by omega), if_neg (by omega)]
        exact ⟨_, rfl, rfl, rfl, h, Out.rf⟩
    · --
      refine v_iconst aX7_pays_16 ?_
      refine v_ireturn aX7_pays_17 rfl ⟨Nat.le_refl _, Nat.le_refl _⟩ ?_
      rw [show sp_pays t s e = -1 from if_neg (by omega)]
      exact ⟨_, rfl, rfl, rfl, h, Out.rf⟩
end LS2
