/-! the model: what follows of the sayings -/
theorem it2_mono {S T : Rl} {x y : Int} : ∀ (n m : Nat), n ≤ m → it2 S n T x y → it2 S m T x y
  | n, 0, h, q => by rw [show n = 0 by omega] at q; exact q
  | n, m + 1, h, q => by
    by_cases e : n = m + 1
    · rw [← e]; exact q
    · exact Or.inl (it2_mono n m (by omega) q)
theorem it3_mono {S T : Rl} {x y : Int} : ∀ (n m : Nat), n ≤ m → it3 S n T x y → it3 S m T x y
  | n, 0, h, q => by rw [show n = 0 by omega] at q; exact q
  | n, m + 1, h, q => by
    by_cases e : n = m + 1
    · rw [← e]; exact q
    · exact Or.inl (it3_mono n m (by omega) q)
theorem it2_to {S T : Rl} (hr : ∀ a, S a a) (ht : ∀ a b c, S a b → S b c → S a c) : ∀ (n : Nat) (x y : Int), it2 S n T x y → ∃ k, S x k ∧ T k y
  | 0, x, y, h => ⟨x, hr x, h⟩
  | n + 1, x, y, h => by
    rcases h with h | ⟨h1, h2⟩
    · exact it2_to hr ht n x y h
    · obtain ⟨k, q1, q2⟩ := it2_to hr ht n _ y h2
      exact ⟨k, ht _ _ _ h1 q1, q2⟩
theorem it3_to {S T : Rl} (hr : ∀ a, S a a) (ht : ∀ a b c, S a b → S b c → S a c) : ∀ (n : Nat) (x y : Int), it3 S n T x y → ∃ k, T x k ∧ S k y
  | 0, x, y, h => ⟨y, h, hr y⟩
  | n + 1, x, y, h => by
    rcases h with h | ⟨h1, h2⟩
    · exact it3_to hr ht n x y h
    · obtain ⟨k, q1, q2⟩ := it3_to hr ht n x _ h1
      exact ⟨k, q1, ht _ _ _ q2 h2⟩
theorem it2_iff {S T : Rl} (N : Nat) (hr : ∀ a, S a a) (ht : ∀ a b c, S a b → S b c → S a c) (hd : ∀ k y, T k y → 0 ≤ k ∧ k < (N : Int)) (x y : Int) : it2 S N T x y ↔ ∃ k, S x k ∧ T k y := by
  refine ⟨it2_to hr ht N x y, fun ⟨k, h1, h2⟩ => ?_⟩
  have hk := hd k y h2
  refine it2_mono (k.toNat + 1) N (by omega) (Or.inr ?_)
  rw [show ((k.toNat : Nat) : Int) = k by omega]
  exact ⟨h1, it2_mono 0 k.toNat (by omega) h2⟩
theorem it3_iff {S T : Rl} (N : Nat) (hr : ∀ a, S a a) (ht : ∀ a b c, S a b → S b c → S a c) (hd : ∀ x k, T x k → 0 ≤ k ∧ k < (N : Int)) (x y : Int) : it3 S N T x y ↔ ∃ k, T x k ∧ S k y := by
  refine ⟨it3_to hr ht N x y, fun ⟨k, h1, h2⟩ => ?_⟩
  have hk := hd x k h1
  refine it3_mono (k.toNat + 1) N (by omega) (Or.inr ?_)
  rw [show ((k.toNat : Nat) : Int) = k by omega]
  exact ⟨it3_mono 0 k.toNat (by omega) h1, h2⟩
/-- a pair of relations of sacks 0 to 5: alike (each with itself), heavier -/
def Pair6 (S0 O : Rl) : Prop := (∀ a, S0 a a) ∧ (∀ a b, S0 a b → a = b ∨ (0 ≤ b ∧ b < 6)) ∧ ∀ a b, O a b → (0 ≤ a ∧ a < 6) ∧ 0 ≤ b ∧ b < 6
theorem TC_dom {R : Rl} {N : Int} (hd : ∀ a b, R a b → a = b ∨ (0 ≤ b ∧ b < N)) {i j : Int} (h : TC R i j) : i = j ∨ (0 ≤ j ∧ j < N) := h.ind (T := fun i j => i = j ∨ (0 ≤ j ∧ j < N)) hd (fun a b c q q' => by
  rcases q' with e | e
  · rw [← e]; exact q
  · exact Or.inr e)
theorem rQ_dom {S0 O : Rl} (h : Pair6 S0 O) {a b : Int} (q : rQ S0 O a b) : 0 ≤ b ∧ b < 6 := by
  obtain ⟨c, d, q1, q2, q3⟩ := q
  rcases TC_dom h.2.1 q3 with e | e
  · rw [← e]; exact (h.2.2 _ _ q2).2
  · exact e
theorem TCQ_dom {S0 O : Rl} (h : Pair6 S0 O) {a b : Int} (q : TC (rQ S0 O) a b) : 0 ≤ b ∧ b < 6 := q.ind (T := fun _ b => 0 ≤ b ∧ b < 6) (fun _ _ z => rQ_dom h z) (fun _ _ _ _ z => z)
theorem close_rel {S0 O : Rl} (h : Pair6 S0 O) (x y : Int) : wsh 6 (fun x y => it3 (TC S0) 6 (it2 (TC S0) 6 O) x y) x y ↔ TC (rQ S0 O) x y := by
  have hr : ∀ a, TC S0 a a := fun a => TC.base (h.1 a)
  have ht : ∀ a b c, TC S0 a b → TC S0 b c → TC S0 a c := fun _ _ _ q q' => q.trans q'
  have e : ∀ x y, it3 (TC S0) 6 (it2 (TC S0) 6 O) x y ↔ rQ S0 O x y := fun x y => by
    have e2 : ∀ x y, it2 (TC S0) 6 O x y ↔ ∃ k, TC S0 x k ∧ O k y := it2_iff 6 hr ht (fun k y q => (h.2.2 k y q).1)
    rw [it3_iff 6 hr ht (fun x k q => by obtain ⟨c, -, q2⟩ := (e2 x k).mp q; exact (h.2.2 _ _ q2).2)]
    constructor
    · rintro ⟨k, q1, q2⟩
      obtain ⟨c, q3, q4⟩ := (e2 x k).mp q1
      exact ⟨c, k, q3, q4, q2⟩
    · rintro ⟨c, d, q1, q2, q3⟩
      exact ⟨d, (e2 x d).mpr ⟨c, q1, q2⟩, q3⟩
  have e3 : (fun x y => it3 (TC S0) 6 (it2 (TC S0) 6 O) x y) = rQ S0 O := funext fun x => funext fun y => propext (e x y)
  rw [e3]
  exact wsh_tc 6 (fun a b q => Or.inr (rQ_dom h q)) x y
section MFOL
variable {l : Launch} {G : Glb} {S : Sh} {μ : Mu} {m : Nat} {t : BSt} {g : Int → Int} {n B : Int}
set_option maxHeartbeats 4000000 in
set_option maxRecDepth 100000 in
theorem lc_X8_close {O : Rl} {P : Pst} (hM : ModS S m) (ho : Mat (μ (m + 8)) O) (hh : P (some (vi (b2i (∀ j : Int, 0 ≤ j → j < 6 → ¬ O j j)))) S μ) : ∀ (N : Nat) (i z : Int), (0 ≤ i ∧ i ≤ 6) → 6 - i < N → z = b2i (∀ j : Int, 0 ≤ j → j < i → ¬ O j j) → V l G cX8_close (yX8_close, 4, (some FieldType.boolean), 0, 0, 0) P (0, 0) S μ 404 [.ref m, vi z, vi i] [] := by
  intro N
  induction N with
  | zero => intro i z h0 h1; omega
  | succ N ih =>
    intro i z h0 h1 hz
    subst hz
    refine v_iload_n aX8_close_404 rfl ?_
    refine v_bipush (by decide) aX8_close_405 ?_
    refine v_icmp_ge 438 rfl aX8_close_407 (by omega) (by omega) (fun c407 => ?_) (fun c407 => ?_)
    · --
      refine v_iload_n aX8_close_438 rfl ?_
      refine v_zreturn aX8_close_439 rfl ⟨Nat.le_refl _, Nat.le_refl _⟩ (by first | exact Or.inl rfl | exact Or.inr rfl | exact b2i_01 | omega) ?_
      obtain rfl : i = 6 := by omega
      exact hh
    · --
      refine v_iload_n aX8_close_410 rfl ?_
      refine v_if_eq_b 430 rfl aX8_close_411 (fun c411 => ?_) (fun c411 => ?_)
      · --
        refine v_iconst aX8_close_430 ?_
        refine v_istore_n aX8_close_431 (by decide) rfl ?_
        refine v_iinc aX8_close_432 rfl (by decide) rfl ?_
        refine v_goto 404 rfl aX8_close_435 ?_
        refine ih (i + 1) 0 (by omega) (by omega) (b2i_f (fun z => c411 (fun j j0 j1 => z j j0 (by omega)))).symm
      · --
        refine v_aload_n aX8_close_414 rfl ?_
        refine v_getr aX8_close_415 fX8_35 hM.p rfl rfl ?_
        refine v_bipush (by decide) aX8_close_418 ?_
        refine v_iload_n aX8_close_420 rfl ?_
        refine v_imul aX8_close_421 ?_
        refine v_zald aX8_close_422 hM.p_over (by omega) (by decide) ?_
        refine v_top (w := b2i (O i i)) (by rw [show 7 * i = 6 * i + i by omega]; exact ho i i (by omega) (by omega) (by omega) (by omega)) ?_
        refine v_if_ne_b 430 rfl aX8_close_423 (fun c423 => ?_) (fun c423 => ?_)
        · --
          refine v_iconst aX8_close_430 ?_
          refine v_istore_n aX8_close_431 (by decide) rfl ?_
          refine v_iinc aX8_close_432 rfl (by decide) rfl ?_
          refine v_goto 404 rfl aX8_close_435 ?_
          refine ih (i + 1) 0 (by omega) (by omega) (b2i_f (fun z => z i (by omega) (by omega) c423)).symm
        · --
          refine v_iconst aX8_close_426 ?_
          refine v_goto 431 rfl aX8_close_427 ?_
          refine v_istore_n aX8_close_431 (by decide) rfl ?_
          refine v_iinc aX8_close_432 rfl (by decide) rfl ?_
          refine v_goto 404 rfl aX8_close_435 ?_
          refine ih (i + 1) 1 (by omega) (by omega) (b2i_t (fun j j0 j1 => ?_)).symm
          by_cases e : j = i
          · subst e; exact c423
          · exact c411 j j0 (by omega)
set_option maxHeartbeats 4000000 in
set_option maxRecDepth 100000 in
theorem c_X8_close {S0 O : Rl} (hM : ModS S m) (h6 : Pair6 S0 O) (hs : Mat (μ (m + 9)) S0) (ho : Mat (μ (m + 8)) O) : Ct l G cX8_close (yX8_close, 4, (some FieldType.boolean), 0, 0, 0) [.ref m] S μ (Re S (fun z μ' => z = b2i (∀ i : Int, ¬ TC (rQ S0 O) i i) ∧ Mat (μ' (m + 9)) (TC S0) ∧ Mat (μ' (m + 8)) (TC (rQ S0 O)) ∧ ∀ q : Nat, q ≠ m + 8 → q ≠ m + 9 → μ' q = μ q)) := by
  refine Ct.of (by decide) rfl (by simp [vi, Value.category]) (Nat.le_of_ble_eq_true rfl) ?_
  refine v_iconst aX8_close_0 ?_
  refine v_istore_n aX8_close_1 (by decide) rfl ?_
  refine v_mu (row_id (a := m + 9)).symm ?_
  refine lk1_X8_close (T := S0) hM (fun f1 L1 h1 => ?_) 7 0 _ [] (by omega) (by omega) hs
  have h1' : Mat f1 (TC S0) := h1.eq fun x y _ _ _ _ => wsh_tc 6 h6.2.1 x y
  refine v_take 1 rfl ?_
  generalize hμ1 : row μ (m + 9) f1 = μ1
  have k1 : ∀ q : Nat, q ≠ m + 9 → μ1 q = μ q := fun q hq => by rw [← hμ1]; exact row_ne hq
  have k9 : μ1 (m + 9) = f1 := by rw [← hμ1]; exact row_same
  show V l G cX8_close (yX8_close, 4, (some FieldType.boolean), 0, 0, 0) _ (0, 0) S μ1 100 [.ref m] []
  refine v_iconst aX8_close_100 ?_
  refine v_istore_n aX8_close_101 (by decide) rfl ?_
  refine v_mu (row_id (a := m + 8)).symm ?_
  refine lk2_X8_close (T := O) (S := TC S0) hM (by rw [k9]; exact h1') (fun f2 L2 h2 => ?_) 7 0 _ [] (by omega) (by omega) (by rw [k1 _ (by omega)]; exact ho)
  refine v_take 1 rfl ?_
  show V l G cX8_close (yX8_close, 4, (some FieldType.boolean), 0, 0, 0) _ (0, 0) S (row μ1 (m + 8) f2) 200 [.ref m] []
  refine v_iconst aX8_close_200 ?_
  refine v_istore_n aX8_close_201 (by decide) rfl ?_
  refine lk3_X8_close (T := it2 (TC S0) 6 O) (S := TC S0) hM (by rw [k9]; exact h1') (fun f3 L3 h3 => ?_) 7 0 _ [] (by omega) (by omega) h2
  refine v_take 1 rfl ?_
  show V l G cX8_close (yX8_close, 4, (some FieldType.boolean), 0, 0, 0) _ (0, 0) S (row μ1 (m + 8) f3) 300 [.ref m] []
  refine v_iconst aX8_close_300 ?_
  refine v_istore_n aX8_close_301 (by decide) rfl ?_
  refine lk4_X8_close (T := fun x y => it3 (TC S0) 6 (it2 (TC S0) 6 O) x y) hM (fun f4 L4 h4 => ?_) 7 0 _ [] (by omega) (by omega) h3
  have h4' : Mat f4 (TC (rQ S0 O)) := h4.eq fun x y _ _ _ _ => close_rel h6 x y
  refine v_take 1 rfl ?_
  show V l G cX8_close (yX8_close, 4, (some FieldType.boolean), 0, 0, 0) _ (0, 0) S (row μ1 (m + 8) f4) 400 [.ref m] []
  refine v_iconst aX8_close_400 ?_
  refine v_istore_n aX8_close_401 (by decide) rfl ?_
  refine v_iconst aX8_close_402 ?_
  refine v_istore_n aX8_close_403 (by decide) rfl ?_
  refine lc_X8_close (O := TC (rQ S0 O)) hM (by rw [row_same]; exact h4') ⟨_, rfl, rfl, b2i_c ⟨fun z i hi => ?_, fun z j _ _ => z j⟩, by rw [row_ne (by omega), k9]; exact h1', by rw [row_same]; exact h4', fun q q1 q2 => by rw [row_ne q1]; exact k1 q q2⟩ 7 0 1 (by omega) (by omega) (b2i_t (fun j j0 j1 => by omega)).symm
  have := TCQ_dom h6 hi
  exact z i this.1 this.2 hi
set_option maxHeartbeats 4000000 in
set_option maxRecDepth 100000 in
theorem l_X8_clear {μ0 : Mu} {P : Pst} (hM : ModS S m) (hh : ∀ μ : Mu, (∀ q : Nat, q ≠ m + 8 → q ≠ m + 9 → μ q = μ0 q) → Mat (μ (m + 8)) (fun _ _ => False) → Mat (μ (m + 9)) (fun a b => a = b) → P none S μ) : ∀ (N : Nat) (i : Int) (μ : Mu), (0 ≤ i ∧ i ≤ 36) → 36 - i < N → (∀ q : Nat, q ≠ m + 8 → q ≠ m + 9 → μ q = μ0 q) → (∀ j : Int, 0 ≤ j → j < i → μ (m + 8) j = 0 ∧ μ (m + 9) j = b2i (j / 6 = j % 6)) → V l G cX8_clear (yX8_clear, 2, none, 0, 0, 0) P (0, 0) S μ 2 [.ref m, vi i] [] := by
  intro N
  induction N with
  | zero => intro i μ h0 h1; omega
  | succ N ih =>
    intro i μ h0 h1 hq hj
    refine v_iload_n aX8_clear_2 rfl ?_
    refine v_bipush (by decide) aX8_clear_3 ?_
    refine v_icmp_ge 43 rfl aX8_clear_5 (by omega) (by omega) (fun c5 => ?_) (fun c5 => ?_)
    · --
      refine v_return aX8_clear_43 rfl ⟨Nat.le_refl _, Nat.le_refl _⟩ ?_
      refine hh μ hq (fun a c a0 a6 c0 c6 => ?_) (fun a c a0 a6 c0 c6 => ?_)
      · rw [(hj _ (by omega) (by omega)).1]; exact (b2i_f id).symm
      · rw [(hj _ (by omega) (by omega)).2]; exact b2i_c (by omega)
    · --
      refine v_aload_n aX8_clear_8 rfl ?_
      refine v_getr aX8_clear_9 fX8_35 hM.p rfl rfl ?_
      refine v_iload_n aX8_clear_12 rfl ?_
      refine v_iconst aX8_clear_13 ?_
      refine v_zast aX8_clear_14 hM.p_over (by omega) (by decide) (by first | exact Or.inl rfl | exact Or.inr rfl | exact b2i_01 | omega) ?_
      refine v_aload_n aX8_clear_15 rfl ?_
      refine v_getr aX8_clear_16 fX8_39 hM.p rfl rfl ?_
      refine v_iload_n aX8_clear_19 rfl ?_
      refine v_iload_n aX8_clear_20 rfl ?_
      refine v_bipush (by decide) aX8_clear_21 ?_
      refine v_idiv (by omega) (by omega) aX8_clear_23 ?_
      refine v_iload_n aX8_clear_24 rfl ?_
      refine v_bipush (by decide) aX8_clear_25 ?_
      refine v_irem (by omega) (by omega) aX8_clear_27 ?_
      refine v_icmp_ne 35 rfl aX8_clear_28 (by omega) (by omega) (fun c28 => ?_) (fun c28 => ?_)
      · --
        refine v_iconst aX8_clear_35 ?_
        refine v_zast aX8_clear_36 hM.p_same (by omega) (by decide) (by first | exact Or.inl rfl | exact Or.inr rfl | exact b2i_01 | omega) ?_
        refine v_iinc aX8_clear_37 rfl (by decide) rfl ?_
        refine v_goto 2 rfl aX8_clear_40 ?_
        refine ih (i + 1) _ (by omega) (by omega) (fun q q1 q2 => by rw [upd2_row q2, upd2_row q1]; exact hq q q1 q2) (fun j j0 j1 => ?_)
        by_cases e : j = i
        · subst e
          rw [upd2_row (by omega), upd2_same, upd2_same]
          exact ⟨rfl, (b2i_f c28).symm⟩
        · have := hj j j0 (by omega)
          rw [upd2_ap, if_neg (by omega), upd2_ap, if_neg (by omega), upd2_ap, if_neg (by omega), upd2_ap, if_neg (by omega)]
          exact this
      · --
        refine v_iconst aX8_clear_31 ?_
        refine v_goto 36 rfl aX8_clear_32 ?_
        refine v_zast aX8_clear_36 hM.p_same (by omega) (by decide) (by first | exact Or.inl rfl | exact Or.inr rfl | exact b2i_01 | omega) ?_
        refine v_iinc aX8_clear_37 rfl (by decide) rfl ?_
        refine v_goto 2 rfl aX8_clear_40 ?_
        refine ih (i + 1) _ (by omega) (by omega) (fun q q1 q2 => by rw [upd2_row q2, upd2_row q1]; exact hq q q1 q2) (fun j j0 j1 => ?_)
        by_cases e : j = i
        · subst e
          rw [upd2_row (by omega), upd2_same, upd2_same]
          exact ⟨rfl, (b2i_t c28).symm⟩
        · have := hj j j0 (by omega)
          rw [upd2_ap, if_neg (by omega), upd2_ap, if_neg (by omega), upd2_ap, if_neg (by omega), upd2_ap, if_neg (by omega)]
          exact this
set_option maxHeartbeats 4000000 in
set_option maxRecDepth 100000 in
theorem c_X8_clear (hM : ModS S m) : Ct l G cX8_clear (yX8_clear, 2, none, 0, 0, 0) [.ref m] S μ (Rw S (fun μ' => Mat (μ' (m + 8)) (fun _ _ => False) ∧ Mat (μ' (m + 9)) (fun a b => a = b) ∧ ∀ q : Nat, q ≠ m + 8 → q ≠ m + 9 → μ' q = μ q)) := by
  refine Ct.of (by decide) rfl (by simp [vi, Value.category]) (Nat.le_of_ble_eq_true rfl) ?_
  refine v_iconst aX8_clear_0 ?_
  refine v_istore_n aX8_clear_1 (by decide) rfl ?_
  exact l_X8_clear (μ0 := μ) hM (fun μ1 a1 a2 a3 => ⟨rfl, rfl, a2, a3, a1⟩) 37 0 μ (by omega) (by omega) (fun _ _ _ => rfl) (fun j j0 j1 => by omega)
set_option maxHeartbeats 4000000 in
set_option maxRecDepth 100000 in
theorem c_X8_put {S0 O : Rl} {s p h : Int} (hM : ModS S m) (hs : Mat (μ (m + 9)) S0) (ho : Mat (μ (m + 8)) O) (h1 : 0 ≤ s ∧ s < 6) (h2 : 0 ≤ p ∧ p < 6) (h3 : 0 ≤ h ∧ h ≤ 2) : Ct l G cX8_put (yX8_put, 4, none, 0, 0, 0) [.ref m, vi s, vi p, vi h] S μ (Rw S (fun μ' => Mat (μ' (m + 9)) (fun a b => S0 a b ∨ (h = 0 ∧ ((a = s ∧ b = p) ∨ (a = p ∧ b = s)))) ∧ Mat (μ' (m + 8)) (fun a b => O a b ∨ (h = 1 ∧ a = s ∧ b = p) ∨ (h = 2 ∧ a = p ∧ b = s)) ∧ ∀ q : Nat, q ≠ m + 8 → q ≠ m + 9 → μ' q = μ q)) := by
  refine Ct.of (by decide) rfl (by simp [vi, Value.category]) (Nat.le_of_ble_eq_true rfl) ?_
  refine v_iload_n aX8_put_0 rfl ?_
  refine v_if_ne 31 rfl aX8_put_1 (by omega) (fun c1 => ?_) (fun c1 => ?_)
  · --
    refine v_iload_n aX8_put_31 rfl ?_
    refine v_iconst aX8_put_32 ?_
    refine v_icmp_ne 51 rfl aX8_put_33 (by omega) (by omega) (fun c33 => ?_) (fun c33 => ?_)
    · --
      refine v_aload_n aX8_put_51 rfl ?_
      refine v_getr aX8_put_52 fX8_35 hM.p rfl rfl ?_
      refine v_bipush (by decide) aX8_put_55 ?_
      refine v_iload_n aX8_put_57 rfl ?_
      refine v_imul aX8_put_58 ?_
      refine v_iload_n aX8_put_59 rfl ?_
      refine v_iadd aX8_put_60 ?_
      refine v_iconst aX8_put_61 ?_
      refine v_zast aX8_put_62 hM.p_over (by omega) (by decide) (by first | exact Or.inl rfl | exact Or.inr rfl | exact b2i_01 | omega) ?_
      refine v_return aX8_put_63 rfl ⟨Nat.le_refl _, Nat.le_refl _⟩ ?_
      refine ⟨rfl, rfl, ?_, ?_, fun q q1 q2 => by rw [upd2_row q1]⟩
      · rw [upd2_row (by omega)]
        exact hs.eq fun x y _ _ _ _ => ⟨Or.inl, fun z => z.elim id (fun w => by omega)⟩
      · rw [upd2_iup, row_same]
        exact Mat.set ho h2 h1 (b2i_t (Or.inr (Or.inr ⟨by omega, rfl, rfl⟩))).symm (fun x y _ _ _ _ q => ⟨Or.inl, fun z => z.elim id (fun w => by omega)⟩)
    · --
      refine v_aload_n aX8_put_36 rfl ?_
      refine v_getr aX8_put_37 fX8_35 hM.p rfl rfl ?_
      refine v_bipush (by decide) aX8_put_40 ?_
      refine v_iload_n aX8_put_42 rfl ?_
      refine v_imul aX8_put_43 ?_
      refine v_iload_n aX8_put_44 rfl ?_
      refine v_iadd aX8_put_45 ?_
      refine v_iconst aX8_put_46 ?_
      refine v_zast aX8_put_47 hM.p_over (by omega) (by decide) (by first | exact Or.inl rfl | exact Or.inr rfl | exact b2i_01 | omega) ?_
      refine v_goto 63 rfl aX8_put_48 ?_
      refine v_return aX8_put_63 rfl ⟨Nat.le_refl _, Nat.le_refl _⟩ ?_
      refine ⟨rfl, rfl, ?_, ?_, fun q q1 q2 => by rw [upd2_row q1]⟩
      · rw [upd2_row (by omega)]
        exact hs.eq fun x y _ _ _ _ => ⟨Or.inl, fun z => z.elim id (fun w => by omega)⟩
      · rw [upd2_iup, row_same]
        exact Mat.set ho h1 h2 (b2i_t (Or.inr (Or.inl ⟨c33, rfl, rfl⟩))).symm (fun x y _ _ _ _ q => ⟨Or.inl, fun z => z.elim id (fun w => by omega)⟩)
  · --
    refine v_aload_n aX8_put_4 rfl ?_
    refine v_getr aX8_put_5 fX8_39 hM.p rfl rfl ?_
    refine v_bipush (by decide) aX8_put_8 ?_
    refine v_iload_n aX8_put_10 rfl ?_
    refine v_imul aX8_put_11 ?_
    refine v_iload_n aX8_put_12 rfl ?_
    refine v_iadd aX8_put_13 ?_
    refine v_iconst aX8_put_14 ?_
    refine v_zast aX8_put_15 hM.p_same (by omega) (by decide) (by first | exact Or.inl rfl | exact Or.inr rfl | exact b2i_01 | omega) ?_
    refine v_aload_n aX8_put_16 rfl ?_
    refine v_getr aX8_put_17 fX8_39 hM.p rfl rfl ?_
    refine v_bipush (by decide) aX8_put_20 ?_
    refine v_iload_n aX8_put_22 rfl ?_
    refine v_imul aX8_put_23 ?_
    refine v_iload_n aX8_put_24 rfl ?_
    refine v_iadd aX8_put_25 ?_
    refine v_iconst aX8_put_26 ?_
    refine v_zast aX8_put_27 hM.p_same (by omega) (by decide) (by first | exact Or.inl rfl | exact Or.inr rfl | exact b2i_01 | omega) ?_
    refine v_goto 63 rfl aX8_put_28 ?_
    refine v_return aX8_put_63 rfl ⟨Nat.le_refl _, Nat.le_refl _⟩ ?_
    refine ⟨rfl, rfl, ?_, ?_, fun q q1 q2 => by rw [upd2_row q2, upd2_row q2]⟩
    · rw [upd2_iup, row_same, upd2_iup, row_same]
      refine Mat.set (R := fun a b => S0 a b ∨ (a = s ∧ b = p)) (Mat.set hs h1 h2 (b2i_t (Or.inr ⟨rfl, rfl⟩)).symm (fun x y _ _ _ _ q => ⟨Or.inl, fun z => z.elim id (fun w => absurd w q)⟩)) h2 h1 (b2i_t (Or.inr ⟨c1, Or.inr ⟨rfl, rfl⟩⟩)).symm (fun x y _ _ _ _ q => ?_)
      exact ⟨fun z => z.imp id (fun w => ⟨c1, Or.inl w⟩), fun z => z.imp id (fun w => w.2.elim id (fun v => absurd v q))⟩
    · rw [upd2_row (by omega), upd2_row (by omega)]
      exact ho.eq fun x y _ _ _ _ => ⟨Or.inl, fun z => z.elim id (fun w => by omega)⟩
theorem sEq_succ {t : BSt} {Sel : Int → Prop} {c : Int} (hc : 0 ≤ c) (i j : Int) : sEq (tC t (c + 1)) Sel i j ↔ sEq (tC t c) Sel i j ∨ (Sel c ∧ t.2.2.2.1 (5 * c + 2) = 0 ∧ ((i = t.2.2.2.1 (5 * c) ∧ j = t.2.2.2.1 (5 * c + 1)) ∨ (i = t.2.2.2.1 (5 * c + 1) ∧ j = t.2.2.2.1 (5 * c)))) := by
  constructor
  · rintro (q | ⟨k, h0, h1, h2, h3⟩)
    · exact Or.inl (Or.inl q)
    · have h1' : k < c + 1 := h1
      by_cases e : k = c
      · subst e; exact Or.inr ⟨h2, h3⟩
      · exact Or.inl (Or.inr ⟨k, h0, show k < c by omega, h2, h3⟩)
  · rintro ((q | ⟨k, h0, h1, h2, h3⟩) | ⟨h2, h3⟩)
    · exact Or.inl q
    · have h1' : k < c := h1
      exact Or.inr ⟨k, h0, show k < c + 1 by omega, h2, h3⟩
    · exact Or.inr ⟨c, hc, show c < c + 1 by omega, h2, h3⟩
theorem sGt_succ {t : BSt} {Sel : Int → Prop} {c : Int} (hc : 0 ≤ c) (i j : Int) : sGt (tC t (c + 1)) Sel i j ↔ sGt (tC t c) Sel i j ∨ (Sel c ∧ ((i = t.2.2.2.1 (5 * c) ∧ j = t.2.2.2.1 (5 * c + 1) ∧ t.2.2.2.1 (5 * c + 2) = 1) ∨ (i = t.2.2.2.1 (5 * c + 1) ∧ j = t.2.2.2.1 (5 * c) ∧ t.2.2.2.1 (5 * c + 2) = 2))) := by
  constructor
  · rintro ⟨k, h0, h1, h2, h3⟩
    have h1' : k < c + 1 := h1
    by_cases e : k = c
    · subst e; exact Or.inr ⟨h2, h3⟩
    · exact Or.inl ⟨k, h0, show k < c by omega, h2, h3⟩
  · rintro (⟨k, h0, h1, h2, h3⟩ | ⟨h2, h3⟩)
    · have h1' : k < c := h1
      exact ⟨k, h0, show k < c + 1 by omega, h2, h3⟩
    · exact ⟨c, hc, show c < c + 1 by omega, h2, h3⟩
theorem pair_ok {t : BSt} {Sel : Int → Prop} {B : Int} (ht : StOk t B) : Pair6 (sEq t Sel) (sGt t Sel) := by
  have h6 := ht.1
  refine ⟨fun a => Or.inl rfl, fun a b q => ?_, fun a b q => ?_⟩
  · rcases q with q | ⟨k, h0, h1, -, -, h3⟩
    · exact Or.inl q
    · have := ht.2.2.2.1 k h0 h1
      rcases h3 with ⟨rfl, rfl⟩ | ⟨rfl, rfl⟩
      · exact Or.inr (by omega)
      · exact Or.inr (by omega)
  · obtain ⟨k, h0, h1, -, h3⟩ := q
    have := ht.2.2.2.1 k h0 h1
    rcases h3 with ⟨rfl, rfl, -⟩ | ⟨rfl, rfl, -⟩ <;> omega
/-- what the model's two tables say behind follow -/
def Fol (μ : Mu) (m : Nat) (t : BSt) (Sel : Int → Prop) : Prop := Mat (μ (m + 9)) (TC (sEq t Sel)) ∧ Mat (μ (m + 8)) (TC (rQ (sEq t Sel) (sGt t Sel)))
set_option maxHeartbeats 4000000 in
set_option maxRecDepth 100000 in
theorem l_X8_follow {μ0 : Mu} {set : Int} {P : Pst} (hM : ModS S m) (h : MbAt μ0 m t) (hok : StOk t B) (hh : ∀ μ : Mu, (∀ q : Nat, q ≠ m + 8 → q ≠ m + 9 → μ q = μ0 q) → Mat (μ (m + 9)) (sEq t (fun j => tb set j)) → Mat (μ (m + 8)) (sGt t (fun j => tb set j)) → ∀ L : List Value, V l G cX8_follow (yX8_follow, 3, (some FieldType.boolean), 1, 0, 0) P (0, 0) S μ 61 (.ref m :: L) []) : ∀ (N : Nat) (i : Int) (μ : Mu), (0 ≤ i ∧ i ≤ t.2.1) → t.2.1 - i < N → (∀ q : Nat, q ≠ m + 8 → q ≠ m + 9 → μ q = μ0 q) → Mat (μ (m + 9)) (sEq (tC t i) (fun j => tb set j)) → Mat (μ (m + 8)) (sGt (tC t i) (fun j => tb set j)) → V l G cX8_follow (yX8_follow, 3, (some FieldType.boolean), 1, 0, 0) P (0, 0) S μ 6 [.ref m, vi set, vi i] [] := by
  obtain ⟨o1, o2, o3, o4, o5⟩ := id hok
  intro N
  induction N with
  | zero => intro i μ h0 h1; omega
  | succ N ih =>
    intro i μ h0 h1 hq hs hg
    have hm3 : μ m 3 = t.2.1 := by rw [hq _ (by omega) (by omega)]; exact h.2.1
    have hm2 : ∀ z : Int, 0 ≤ z → z < 60 → μ (m + 2) z = t.2.2.2.1 z := fun z z0 z6 => by rw [hq _ (by omega) (by omega)]; exact h.2.2.2.1 z z0 z6
    have hb9 := b2i_r (p := tb set i)
    refine v_iload_n aX8_follow_6 rfl ?_
    refine v_aload_n aX8_follow_7 rfl ?_
    refine v_gi 3 rfl aX8_follow_8 fX8_83 hM.p rfl rfl ?_
    rw [hm3]
    refine v_icmp_ge 61 rfl aX8_follow_11 (by omega) (by omega) (fun c11 => ?_) (fun c11 => ?_)
    · --
      obtain rfl : i = t.2.1 := by omega
      exact hh μ hq hs hg _
    · --
      have q9 := o4 i (by omega) (by omega)
      refine v_iload_n aX8_follow_14 rfl ?_
      refine v_iload_n aX8_follow_15 rfl ?_
      refine v_ishr aX8_follow_16 ?_
      refine v_iconst aX8_follow_17 ?_
      refine v_iand aX8_follow_18 ?_
      refine v_top (bit01 (by omega)) ?_
      refine v_iconst aX8_follow_19 ?_
      refine v_icmp_ne 55 rfl aX8_follow_20 (by omega) (by omega) (fun c20 => ?_) (fun c20 => ?_)
      · --
        refine v_iinc aX8_follow_55 rfl (by decide) rfl ?_
        refine v_goto 6 rfl aX8_follow_58 ?_
        refine ih (i + 1) μ (by omega) (by omega) hq (hs.eq fun a c _ _ _ _ => ?_) (hg.eq fun a c _ _ _ _ => ?_)
        · rw [sEq_succ (by omega)]; exact ⟨Or.inl, fun z => z.elim id (fun w => absurd (b2i_t w.1) c20)⟩
        · rw [sGt_succ (by omega)]; exact ⟨Or.inl, fun z => z.elim id (fun w => absurd (b2i_t w.1) c20)⟩
      · --
        refine v_aload_n aX8_follow_23 rfl ?_
        refine v_aload_n aX8_follow_24 rfl ?_
        refine v_getr aX8_follow_25 fX8_17 hM.p rfl rfl ?_
        refine v_iconst aX8_follow_28 ?_
        refine v_iload_n aX8_follow_29 rfl ?_
        refine v_imul aX8_follow_30 ?_
        refine v_iald aX8_follow_31 hM.p_book (by omega) (by decide) ?_
        rw [hm2 _ (by omega) (by omega)]
        refine v_aload_n aX8_follow_32 rfl ?_
        refine v_getr aX8_follow_33 fX8_17 hM.p rfl rfl ?_
        refine v_iconst aX8_follow_36 ?_
        refine v_iload_n aX8_follow_37 rfl ?_
        refine v_imul aX8_follow_38 ?_
        refine v_iconst aX8_follow_39 ?_
        refine v_iadd aX8_follow_40 ?_
        refine v_iald aX8_follow_41 hM.p_book (by omega) (by decide) ?_
        rw [hm2 _ (by omega) (by omega)]
        refine v_aload_n aX8_follow_42 rfl ?_
        refine v_getr aX8_follow_43 fX8_17 hM.p rfl rfl ?_
        refine v_iconst aX8_follow_46 ?_
        refine v_iload_n aX8_follow_47 rfl ?_
        refine v_imul aX8_follow_48 ?_
        refine v_iconst aX8_follow_49 ?_
        refine v_iadd aX8_follow_50 ?_
        refine v_iald aX8_follow_51 hM.p_book (by omega) (by decide) ?_
        rw [hm2 _ (by omega) (by omega)]
        refine v_cVw (c_X8_put hM hs hg (by omega) (by omega) (by omega)) aX8_follow_52 mX8_put vX8_put lX8_100 hM.p rfl rfl rfl rfl rfl (Nat.le_of_ble_eq_true rfl) ⟨Nat.le_of_ble_eq_true rfl, Nat.le_of_ble_eq_true rfl⟩ (Nat.le_of_ble_eq_true rfl) (fun μ1 ⟨r1, r2, r3⟩ => ?_)
        refine v_iinc aX8_follow_55 rfl (by decide) rfl ?_
        refine v_goto 6 rfl aX8_follow_58 ?_
        have c20' := b2i_1.mp c20
        refine ih (i + 1) μ1 (by omega) (by omega) (fun q q1 q2 => (r3 q q1 q2).trans (hq q q1 q2)) (r1.eq fun a c _ _ _ _ => ?_) (r2.eq fun a c _ _ _ _ => ?_)
        · rw [sEq_succ (by omega)]; exact ⟨fun z => z.imp id (fun w => ⟨c20', w⟩), fun z => z.imp id (fun w => w.2)⟩
        · rw [sGt_succ (by omega)]
          constructor
          · rintro (z | ⟨z1, z2, z3⟩ | ⟨z1, z2, z3⟩)
            · exact Or.inl z
            · exact Or.inr ⟨c20', Or.inl ⟨z2, z3, z1⟩⟩
            · exact Or.inr ⟨c20', Or.inr ⟨z2, z3, z1⟩⟩
          · rintro (z | ⟨-, ⟨z2, z3, z1⟩ | ⟨z2, z3, z1⟩⟩)
            · exact Or.inl z
            · exact Or.inr (Or.inl ⟨z1, z2, z3⟩)
            · exact Or.inr (Or.inr ⟨z1, z2, z3⟩)
set_option maxHeartbeats 4000000 in
set_option maxRecDepth 100000 in
theorem c_X8_follow {set : Int} (hM : ModS S m) (h : MbAt μ m t) (hok : StOk t B) : Ct l G cX8_follow (yX8_follow, 3, (some FieldType.boolean), 1, 0, 0) [.ref m, vi set] S μ (Re S (fun z μ' => z = b2i (Can t (fun j => tb set j)) ∧ Fol μ' m t (fun j => tb set j) ∧ ∀ q : Nat, q ≠ m + 8 → q ≠ m + 9 → μ' q = μ q)) := by
  obtain ⟨o1, o2, o3, o4, o5⟩ := id hok
  refine Ct.of (by decide) rfl (by simp [vi, Value.category]) (Nat.le_of_ble_eq_true rfl) ?_
  refine v_aload_n aX8_follow_0 rfl ?_
  refine v_cVw (c_X8_clear hM) aX8_follow_1 mX8_clear vX8_clear lX8_97 hM.p rfl rfl rfl rfl rfl (Nat.le_of_ble_eq_true rfl) ⟨Nat.le_of_ble_eq_true rfl, Nat.le_of_ble_eq_true rfl⟩ (Nat.le_of_ble_eq_true rfl) (fun μ1 ⟨r1, r2, r3⟩ => ?_)
  refine v_iconst aX8_follow_4 ?_
  refine v_istore_n aX8_follow_5 (by decide) rfl ?_
  refine l_X8_follow (μ0 := μ) hM h hok (fun μ2 a1 a2 a3 L => ?_) 13 0 μ1 (by omega) (by omega) r3 (r2.eq fun a c _ _ _ _ => ⟨Or.inl, fun z => z.elim id (fun ⟨k, k0, k1, _⟩ => absurd k1 (by show ¬ k < 0; omega))⟩) (r1.eq fun a c _ _ _ _ => ⟨False.elim, fun ⟨k, k0, k1, _⟩ => absurd k1 (by show ¬ k < 0; omega)⟩)
  refine v_take 1 rfl ?_
  show V l G cX8_follow (yX8_follow, 3, (some FieldType.boolean), 1, 0, 0) _ (0, 0) S μ2 61 [.ref m] []
  refine v_aload_n aX8_follow_61 rfl ?_
  refine v_cVe (c_X8_close hM (pair_ok hok) a2 a3) aX8_follow_62 mX8_close vX8_close lX8_104 hM.p rfl rfl rfl rfl rfl (Nat.le_of_ble_eq_true rfl) ⟨Nat.le_of_ble_eq_true rfl, Nat.le_of_ble_eq_true rfl⟩ (Nat.le_of_ble_eq_true rfl) (fun z μ3 ⟨r4, r5, r6, r7⟩ => ?_)
  rw [r4]
  refine v_zreturn aX8_follow_65 rfl ⟨Nat.le_refl _, Nat.le_refl _⟩ (by first | exact Or.inl rfl | exact Or.inr rfl | exact b2i_01 | omega) ?_
  refine ⟨_, rfl, rfl, b2i_c ?_, ⟨r5, r6⟩, fun q q1 q2 => (r7 q q1 q2).trans (a1 q q1 q2)⟩
  exact (can_iff sEq_r).symm
theorem all_bits : ∀ c, c < 13 → (∀ k, k < 13 → bt (Int32.ofInt ((Int32.ofInt 1 <<< (Int32.ofInt (c : Nat) &&& 31)).toInt - 1)) k = decide (k < c)) := by decide +kernel
theorem tb_all {c k : Int} (hc : 0 ≤ c ∧ c ≤ 12) (hk : 0 ≤ k ∧ k < 13) : tb (iShl 1 c - 1) k ↔ k < c := by
  have h := all_bits c.toNat (by omega) k.toNat (by omega)
  rw [show ((c.toNat : Nat) : Int) = c by omega] at h
  unfold tb iShl
  rw [h]
  simp
  omega
theorem sel_c {t : BSt} {Sel Sel' : Int → Prop} (h : ∀ k : Int, 0 ≤ k → k < t.2.1 → (Sel k ↔ Sel' k)) : sEq t Sel = sEq t Sel' ∧ sGt t Sel = sGt t Sel' := by
  constructor
  · funext i j
    refine propext (or_congr Iff.rfl (exists_congr fun k => ?_))
    constructor
    · rintro ⟨h0, h1, h2, h3⟩; exact ⟨h0, h1, (h k h0 h1).mp h2, h3⟩
    · rintro ⟨h0, h1, h2, h3⟩; exact ⟨h0, h1, (h k h0 h1).mpr h2, h3⟩
  · funext i j
    refine propext (exists_congr fun k => ?_)
    constructor
    · rintro ⟨h0, h1, h2, h3⟩; exact ⟨h0, h1, (h k h0 h1).mp h2, h3⟩
    · rintro ⟨h0, h1, h2, h3⟩; exact ⟨h0, h1, (h k h0 h1).mpr h2, h3⟩
/-- all sayings -/
def SA : Int → Prop := fun _ => True
theorem can_sel {t : BSt} {Sel Sel' : Int → Prop} (h : ∀ k : Int, 0 ≤ k → k < t.2.1 → (Sel k ↔ Sel' k)) : (Can t Sel ↔ Can t Sel') ∧ Rg t Sel = Rg t Sel' := by
  obtain ⟨e1, e2⟩ := sel_c h
  unfold Can Rg
  rw [e1, e2]
  exact ⟨Iff.rfl, rfl⟩
set_option maxHeartbeats 4000000 in
set_option maxRecDepth 100000 in
theorem c_X8_followAll (hM : ModS S m) (h : MbAt μ m t) (hok : StOk t B) : Ct l G cX8_followAll (yX8_followAll, 1, (some FieldType.boolean), 2, 0, 0) [.ref m] S μ (Re S (fun z μ' => z = b2i (Can t SA) ∧ Fol μ' m t SA ∧ ∀ q : Nat, q ≠ m + 8 → q ≠ m + 9 → μ' q = μ q)) := by
  obtain ⟨o1, o2, o3, o4, o5⟩ := id hok
  have hm3 : μ m 3 = t.2.1 := h.2.1
  have hsel : ∀ k : Int, 0 ≤ k → k < t.2.1 → (tb (iShl 1 t.2.1 - 1) k ↔ SA k) := fun k k0 k1 => by rw [tb_all o2 (by omega)]; exact ⟨fun _ => trivial, fun _ => k1⟩
  refine Ct.of (by decide) rfl (by simp [vi, Value.category]) (Nat.le_of_ble_eq_true rfl) ?_
  refine v_aload_n aX8_followAll_0 rfl ?_
  refine v_iconst aX8_followAll_1 ?_
  refine v_aload_n aX8_followAll_2 rfl ?_
  refine v_gi 3 rfl aX8_followAll_3 fX8_83 hM.p rfl rfl ?_
  rw [hm3]
  refine v_ishl aX8_followAll_6 ?_
  refine v_iconst aX8_followAll_7 ?_
  refine v_isub aX8_followAll_8 ?_
  refine v_cVe (c_X8_follow hM h hok) aX8_followAll_9 mX8_follow vX8_follow lX8_108 hM.p rfl rfl rfl rfl rfl (Nat.le_of_ble_eq_true rfl) ⟨Nat.le_of_ble_eq_true rfl, Nat.le_of_ble_eq_true rfl⟩ (Nat.le_of_ble_eq_true rfl) (fun z μ1 ⟨r1, r2, r3⟩ => ?_)
  rw [r1]
  refine v_zreturn aX8_followAll_12 rfl ⟨Nat.le_refl _, Nat.le_refl _⟩ (by first | exact Or.inl rfl | exact Or.inr rfl | exact b2i_01 | omega) ?_
  refine ⟨_, rfl, rfl, b2i_c (can_sel hsel).1, ?_, r3⟩
  unfold Fol at r2 ⊢
  rw [(sel_c hsel).1, (sel_c hsel).2] at r2
  exact r2
end MFOL
