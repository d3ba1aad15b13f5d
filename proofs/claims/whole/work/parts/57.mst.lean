/-! the stands of the model: its table of what is known and what lies there -/
theorem i65535 {z : Int} (h : 0 ≤ z ∧ z < 2147483648) : iAnd z 65535 = z % 65536 := by
  refine tb_ext iAnd_r (by omega) fun j j0 j1 => ?_
  rw [tb_and]
  have e1 : tb 65535 j ↔ j < 16 := by
    unfold tb
    rw [show Int32.ofInt 65535 = 65535 from rfl, b_65535]
    simp only [decide_eq_true_eq]
    omega
  have e2 : (z % 65536).toNat = z.toNat % 2 ^ 16 := by
    rw [show (2 : Nat) ^ 16 = 65536 from rfl]
    omega
  rw [e1, tb_nn (z := z % 65536) (by omega), tb_nn h.1, e2, Nat.testBit_mod_two_pow]
  simp only [Bool.and_eq_true, decide_eq_true_eq]
  constructor
  · rintro ⟨⟨q1, q2⟩, q3⟩; exact ⟨q1, by omega, q2⟩
  · rintro ⟨q1, q2, q3⟩; exact ⟨⟨q1, q3⟩, by omega⟩
def slF (a y : Int) : Int := iAnd (iShr ((a * 7 + y * 31 + a / 8191) * 40503) 4) 65535
theorem slF_r {a y : Int} : 0 ≤ slF a y ∧ slF a y < 65536 := by
  have h := rng_of (X := Int32.ofInt (iShr ((a * 7 + y * 31 + a / 8191) * 40503) 4) &&& Int32.ofInt 65535) 16 (by decide) (fun j j0 j1 => by
    rw [b_and, show Int32.ofInt 65535 = 65535 from rfl, b_65535]
    simp
    omega)
  have h1 := h.1
  have h2 := h.2
  rw [show (2 : Nat) ^ 16 = 65536 from rfl] at h2
  unfold slF iAnd
  omega
/-- the table T of n stands (K: what is known, Y: what lies there) -/
def TbF (gn n : Int) (T K Y : Int → Int) : Prop := (0 ≤ n ∧ n ≤ 25998) ∧ (∀ s : Int, 0 ≤ s → s < 65536 → T s = -6 ∨ (0 ≤ T s ∧ T s < n)) ∧ (∀ k : Int, 0 ≤ k → k < n → ∃ d : Int, (0 ≤ d ∧ d < 65536) ∧ T ((slF (K k) (Y k) + d) % 65536) = k ∧ ∀ e : Int, 0 ≤ e → e < d → 0 ≤ T ((slF (K k) (Y k) + e) % 65536)) ∧ (∀ s u : Int, 0 ≤ s → s < 65536 → 0 ≤ u → u < 65536 → 0 ≤ T s → T s = T u → s = u) ∧ (∀ k j : Int, 0 ≤ k → k < n → 0 ≤ j → j < n → K k = K j → Y k = Y j → k = j) ∧ ∀ k : Int, 0 ≤ k → k < n → OW gn (K k) ∧ ((0 ≤ Y k ∧ Y k < gn) ∨ Y k = 5)
theorem TbF_full {gn n s : Int} {T K Y : Int → Int} (h : TbF gn n T K Y) (hs : 0 ≤ s ∧ s < 65536) (hf : ∀ e : Int, 0 ≤ e → e < 65536 → 0 ≤ T ((s + e) % 65536)) : False := by
  obtain ⟨h1, h2, h3, h4, h5, h6⟩ := h
  have := php 25998 65536 (fun i => (T ((s + i) % 65536)).toNat) (fun i hi => by
    have a1 := hf i (by omega) (by omega)
    have a2 := h2 ((s + i) % 65536) (by omega) (by omega)
    show (T ((s + i) % 65536)).toNat < 25998
    omega) (fun i j hi hj e => by
    have a1 := hf i (by omega) (by omega)
    have a2 := hf j (by omega) (by omega)
    have e : (T ((s + i) % 65536)).toNat = (T ((s + j) % 65536)).toNat := e
    have := h4 ((s + i) % 65536) ((s + j) % 65536) (by omega) (by omega) (by omega) (by omega) a1 (by omega)
    omega)
  omega
theorem TbF_none {gn n a y d : Int} {T K Y : Int → Int} (h : TbF gn n T K Y) (hd : 0 ≤ d ∧ d < 65536) (hp : ∀ e : Int, 0 ≤ e → e < d → 0 ≤ T ((slF a y + e) % 65536) ∧ ¬ (K (T ((slF a y + e) % 65536)) = a ∧ Y (T ((slF a y + e) % 65536)) = y)) (ht : T ((slF a y + d) % 65536) < 0) : ∀ k : Int, 0 ≤ k → k < n → ¬ (K k = a ∧ Y k = y) := by
  rintro k k0 k1 ⟨e1, e2⟩
  obtain ⟨d', d1, d2, d3⟩ := h.2.2.1 k k0 k1
  rw [e1, e2] at d2 d3
  rcases Int.lt_trichotomy d' d with l | l | l
  · have := (hp d' d1.1 l).2
    rw [d2] at this
    exact this ⟨e1, e2⟩
  · rw [← l, d2] at ht; omega
  · have := d3 d hd.1 l; omega
theorem TbF_ins {gn n a y d : Int} {T K Y : Int → Int} (hg : gn ≤ 5) (h : TbF gn n T K Y) (hd : 0 ≤ d ∧ d < 65536) (hp : ∀ e : Int, 0 ≤ e → e < d → 0 ≤ T ((slF a y + e) % 65536) ∧ ¬ (K (T ((slF a y + e) % 65536)) = a ∧ Y (T ((slF a y + e) % 65536)) = y)) (ht : T ((slF a y + d) % 65536) < 0) (ha : OW gn a) (hy : (0 ≤ y ∧ y < gn) ∨ y = 5) : TbF gn (n + 1) (iup T ((slF a y + d) % 65536) n) (iup K n a) (iup Y n y) := by
  have hn := TbF_none h hd hp ht
  obtain ⟨h1, h2, h3, h4, h5, h6⟩ := h
  have hK : ∀ k : Int, k ≠ n → iup K n a k = K k := fun k q => iup_ne q
  have hY : ∀ k : Int, k ≠ n → iup Y n y k = Y k := fun k q => iup_ne q
  have hT : ∀ s : Int, s ≠ (slF a y + d) % 65536 → iup T ((slF a y + d) % 65536) n s = T s := fun s q => iup_ne q
  have g6 : ∀ k : Int, 0 ≤ k → k < n + 1 → OW gn (iup K n a k) ∧ ((0 ≤ iup Y n y k ∧ iup Y n y k < gn) ∨ iup Y n y k = 5) := fun k k0 k1 => by
    by_cases e : k = n
    · rw [e, iup_same, iup_same]; exact ⟨ha, hy⟩
    · rw [hK k e, hY k e]; exact h6 k k0 (by omega)
  have g5 : ∀ k j : Int, 0 ≤ k → k < n + 1 → 0 ≤ j → j < n + 1 → iup K n a k = iup K n a j → iup Y n y k = iup Y n y j → k = j := fun k j k0 k1 j0 j1 e1 e2 => by
    by_cases q1 : k = n <;> by_cases q2 : j = n
    · omega
    · rw [q1, iup_same, hK j q2] at e1
      rw [q1, iup_same, hY j q2] at e2
      exact absurd ⟨e1.symm, e2.symm⟩ (hn j j0 (by omega))
    · rw [q2, iup_same, hK k q1] at e1
      rw [q2, iup_same, hY k q1] at e2
      exact absurd ⟨e1, e2⟩ (hn k k0 (by omega))
    · rw [hK k q1, hK j q2] at e1
      rw [hY k q1, hY j q2] at e2
      exact h5 k j k0 (by omega) j0 (by omega) e1 e2
  have hle := std_le (G := gn) (n := (n + 1).toNat) (K := iup K n a) (Y := iup Y n y) hg (fun i i0 i1 => by have := g6 i i0 (by omega); exact ⟨this.1, by omega, by omega⟩) (fun i j i0 i1 j0 j1 e1 e2 => g5 i j i0 (by omega) j0 (by omega) e1 e2)
  refine ⟨by omega, fun s s0 s1 => ?_, fun k k0 k1 => ?_, fun s u s0 s1 u0 u1 p e => ?_, g5, g6⟩
  · by_cases q : s = (slF a y + d) % 65536
    · rw [q, iup_same]; omega
    · rw [hT s q]; have := h2 s s0 s1; omega
  · by_cases q : k = n
    · rw [q, iup_same, iup_same]
      refine ⟨d, hd, iup_same, fun e e0 e1 => ?_⟩
      by_cases q2 : (slF a y + e) % 65536 = (slF a y + d) % 65536
      · rw [q2, iup_same]; omega
      · rw [hT _ q2]; exact (hp e e0 e1).1
    · obtain ⟨d', d1, d2, d3⟩ := h3 k k0 (by omega)
      rw [hK k q, hY k q]
      refine ⟨d', d1, ?_, fun e e0 e1 => ?_⟩
      · rw [hT _ (fun q2 => by rw [q2] at d2; omega)]; exact d2
      · have := d3 e e0 e1
        rw [hT _ (fun q2 => by rw [q2] at this; omega)]; exact this
  · by_cases q1 : s = (slF a y + d) % 65536 <;> by_cases q2 : u = (slF a y + d) % 65536
    · omega
    · rw [q1, iup_same, hT u q2] at e
      have := h2 u u0 u1; omega
    · rw [q2, iup_same, hT s q1] at e
      have := h2 s s0 s1; omega
    · rw [hT s q1] at p
      rw [hT s q1, hT u q2] at e
      exact h4 s u s0 s1 u0 u1 p e
def TbA (μ : Mu) (m : Nat) (gn : Int) : Prop := TbF gn (μ m 17) (μ (m + 16)) (μ (m + 13)) (μ (m + 14))
/-- what stand does -/
def StP (μ μ' : Mu) (m : Nat) (gn a y z : Int) : Prop := TbA μ' m gn ∧ ((0 ≤ z ∧ z < μ' m 17) ∧ μ' (m + 13) z = a ∧ μ' (m + 14) z = y) ∧ (μ m 17 ≤ μ' m 17 ∧ μ' m 17 ≤ μ m 17 + 1) ∧ (∀ k : Int, 0 ≤ k → k < μ m 17 → μ' (m + 13) k = μ (m + 13) k ∧ μ' (m + 14) k = μ (m + 14) k ∧ μ' (m + 15) k = μ (m + 15) k) ∧ ((∃ k : Int, (0 ≤ k ∧ k < μ m 17) ∧ μ (m + 13) k = a ∧ μ (m + 14) k = y) → μ' = μ) ∧ (∀ q : Nat, q ≠ m → q ≠ m + 13 → q ≠ m + 14 → q ≠ m + 15 → q ≠ m + 16 → μ' q = μ q) ∧ ∀ i : Int, i ≠ 17 → μ' m i = μ m i
/-- joining under way: up to (i, j) -/
def WJ (w h g i j r : Int) : Prop := W25 r ∧ ∀ a c : Int, 0 ≤ a → a < 5 → 0 ≤ c → c < 5 → (tb r (5 * a + c) ↔ tb w (5 * a + c) ∨ ((a < i ∨ (a = i ∧ c < j)) ∧ (a = h ∨ tb w (5 * a + h)) ∧ (c = g ∨ tb w (5 * g + c))))
theorem WJ_0 {w h g : Int} (hw : W25 w) : WJ w h g 0 0 w := ⟨hw, fun a c a0 a1 c0 c1 => ⟨Or.inl, fun q => q.elim id (fun q => absurd q.1 (by omega))⟩⟩
theorem WJ_next {w h g i k r gn : Int} (hw : OW gn w) (hg : 0 ≤ g ∧ g < gn) (h5 : WJ w h g i k r) (hk : k = gn) : WJ w h g (i + 1) 0 r := ⟨h5.1, fun a c a0 a1 c0 c1 => (h5.2 a c a0 a1 c0 c1).trans ⟨fun q => q.imp id (fun q => ⟨by omega, q.2⟩), fun q => q.imp id (fun q => ⟨by
  have : c < gn := by
    rcases q.2.2 with z | z
    · omega
    · rcases Int.lt_or_le g 5 with l | l
      · exact (hw.2.1 g c ⟨by omega, ⟨c0, c1⟩, z⟩).2.2
      · omega
  omega, q.2⟩)⟩⟩
theorem WJ_no {w h g i j r : Int} (h5 : WJ w h g i j r) (hn : ¬ ((i = h ∨ tb w (5 * i + h)) ∧ (j = g ∨ tb w (5 * g + j)))) : WJ w h g i (j + 1) r := ⟨h5.1, fun a c a0 a1 c0 c1 => (h5.2 a c a0 a1 c0 c1).trans ⟨fun q => q.imp id (fun q => ⟨by omega, q.2⟩), fun q => q.imp id (fun q => ⟨by
  by_cases e : a = i ∧ c = j
  · obtain ⟨rfl, rfl⟩ := e
    exact absurd q.2 hn
  · omega, q.2⟩)⟩⟩
theorem or0 {r : Int} (h : W25 r) : iOr r 0 = r := tb_ext iOr_r h.r (fun j _ _ => by rw [tb_or]; exact ⟨fun q => q.elim id (fun z => absurd z tb_zero), Or.inl⟩)
theorem WJ_yes {w h g i j r : Int} (h5 : WJ w h g i j r) (hi : 0 ≤ i ∧ i < 5) (hj : 0 ≤ j ∧ j < 5) (h1 : i = h ∨ tb w (5 * i + h)) (h2 : j = g ∨ tb w (5 * g + j)) : WJ w h g i (j + 1) (iOr r (iShl 1 (5 * i + j))) := by
  refine ⟨or_rng 25 (by decide) h5.1 (shl1_rng 25 (by decide) (by omega)), fun a c a0 a1 c0 c1 => ?_⟩
  rw [tb_or, h5.2 a c a0 a1 c0 c1, tb_shl1 (by omega) (by omega)]
  constructor
  · rintro ((q | q) | q)
    · exact Or.inl q
    · exact Or.inr ⟨by omega, q.2⟩
    · have e1 : a = i := by omega
      have e2 : c = j := by omega
      subst e1
      subst e2
      exact Or.inr ⟨by omega, h1, h2⟩
  · rintro (q | ⟨q, q2⟩)
    · exact Or.inl (Or.inl q)
    · by_cases e : a = i ∧ c = j
      · exact Or.inr (by omega)
      · exact Or.inl (Or.inr ⟨by omega, q2⟩)
theorem WJ_JB {G w h g r : Int} (hw : OW G w) (hG : G ≤ 5) (hh : 0 ≤ h ∧ h < G) (hg : 0 ≤ g ∧ g < G) (hj : WJ w h g G 0 r) : JB w h g r := by
  refine JS_JB hw hG hh hg ⟨hj.1, fun a c a0 a1 c0 c1 => (hj.2 a c a0 a1 c0 c1).trans ⟨fun q => q.imp id (fun q => ⟨by omega, q.2⟩), fun q => q.imp id (fun q => ⟨Or.inl q.1, q.2⟩)⟩⟩
def WP (w i j : Int) : Prop := ∀ a c : Int, 0 ≤ c → c < a → (a < i ∨ (a = i ∧ c < j)) → RB w a c ∨ RB w c a
theorem WP_wh {w n : Int} (h0 : 0 ≤ n) : WP w n 0 ↔ WhR n (RB w) := by
  constructor
  · intro h a c a0 a1 c0 c1 ne
    rcases (show c < a ∨ a < c by omega) with l | l
    · exact h a c c0 l (by omega)
    · exact (h c a a0 l (by omega)).symm
  · intro h a c c0 l q
    exact h a c (by omega) (by omega) c0 (by omega) (by omega)
theorem WP_next {w i : Int} : WP w (i + 1) 0 ↔ WP w i i := ⟨fun h a c c0 l q => h a c c0 l (by omega), fun h a c c0 l q => h a c c0 l (by omega)⟩
theorem WP_s {w i j : Int} (hi : i < 5) (hj : 0 ≤ j ∧ j < i) : WP w i (j + 1) ↔ WP w i j ∧ (tb w (5 * i + j) ∨ tb w (5 * j + i)) := by
  have e : (RB w i j ∨ RB w j i) ↔ (tb w (5 * i + j) ∨ tb w (5 * j + i)) := ⟨fun q => q.imp (fun z => z.2.2) (fun z => z.2.2), fun q => q.imp (fun z => ⟨by omega, by omega, z⟩) (fun z => ⟨by omega, by omega, z⟩)⟩
  rw [← e]
  constructor
  · intro h
    exact ⟨fun a c c0 l q => h a c c0 l (by omega), h i j hj.1 hj.2 (by omega)⟩
  · rintro ⟨h, h2⟩ a c c0 l q
    by_cases z : a = i ∧ c = j
    · rw [z.1, z.2]; exact h2
    · exact h a c c0 l (by omega)
section MST
variable {l : Launch} {G : Glb} {S : Sh} {μ : Mu} {m : Nat} {gn : Int}
set_option maxHeartbeats 4000000 in
set_option maxRecDepth 100000 in
theorem c_X8_slot {a y : Int} (ha : 0 ≤ a ∧ a < 33554432) : Ct l G cX8_slot (yX8_slot, 3, (some FieldType.int), 0, 0, 0) [vi a, vi y] S μ (Ri S (slF a y) μ) := by
  refine Ct.of (by decide) rfl (by simp [vi, Value.category]) (Nat.le_of_ble_eq_true rfl) ?_
  refine v_iload_n aX8_slot_0 rfl ?_
  refine v_bipush (by decide) aX8_slot_1 ?_
  refine v_imul aX8_slot_3 ?_
  refine v_iload_n aX8_slot_4 rfl ?_
  refine v_bipush (by decide) aX8_slot_5 ?_
  refine v_imul aX8_slot_7 ?_
  refine v_iadd aX8_slot_8 ?_
  refine v_iload_n aX8_slot_9 rfl ?_
  refine v_sipush (by decide) aX8_slot_10 ?_
  refine v_idiv (by omega) (by omega) aX8_slot_13 ?_
  refine v_iadd aX8_slot_14 ?_
  refine v_istore_n aX8_slot_15 (by decide) rfl ?_
  refine v_iload_n aX8_slot_16 rfl ?_
  refine v_ldc kX8_134 aX8_slot_17 ?_
  refine v_imul aX8_slot_19 ?_
  refine v_iconst aX8_slot_20 ?_
  refine v_ishr aX8_slot_21 ?_
  refine v_ldc kX8_135 aX8_slot_22 ?_
  refine v_iand aX8_slot_24 ?_
  refine v_ireturn aX8_slot_25 rfl ⟨Nat.le_refl _, Nat.le_refl _⟩ ?_
  exact ⟨rfl, rfl, rfl⟩
set_option maxHeartbeats 4000000 in
set_option maxRecDepth 100000 in
theorem c_X8_isOver {w a c : Int} (ha : 0 ≤ a ∧ a < 5) (hc : 0 ≤ c ∧ c < 5) : Ct l G cX8_isOver (yX8_isOver, 3, (some FieldType.boolean), 0, 0, 0) [vi w, vi a, vi c] S μ (Ri S (b2i (tb w (5 * a + c))) μ) := by
  have rb := b2i_01 (p := tb w (5 * a + c))
  refine Ct.of (by decide) rfl (by simp [vi, Value.category]) (Nat.le_of_ble_eq_true rfl) ?_
  refine v_iload_n aX8_isOver_0 rfl ?_
  refine v_iconst aX8_isOver_1 ?_
  refine v_iload_n aX8_isOver_2 rfl ?_
  refine v_imul aX8_isOver_3 ?_
  refine v_iload_n aX8_isOver_4 rfl ?_
  refine v_iadd aX8_isOver_5 ?_
  refine v_ishr aX8_isOver_6 ?_
  refine v_iconst aX8_isOver_7 ?_
  refine v_iand aX8_isOver_8 ?_
  refine v_top (bit01 (by omega)) ?_
  refine v_iconst aX8_isOver_9 ?_
  refine v_icmp_ne 17 rfl aX8_isOver_10 (by omega) (by omega) (fun c10 => ?_) (fun c10 => ?_)
  · --
    refine v_iconst aX8_isOver_17 ?_
    refine v_zreturn aX8_isOver_18 rfl ⟨Nat.le_refl _, Nat.le_refl _⟩ (by first | exact Or.inl rfl | exact Or.inr rfl | exact b2i_01 | omega) ?_
    exact ⟨congrArg (fun z => some (vi z)) (show (0 : Int) = b2i (tb w (5 * a + c)) by omega), rfl, rfl⟩
  · --
    refine v_iconst aX8_isOver_13 ?_
    refine v_goto 18 rfl aX8_isOver_14 ?_
    refine v_zreturn aX8_isOver_18 rfl ⟨Nat.le_refl _, Nat.le_refl _⟩ (by first | exact Or.inl rfl | exact Or.inr rfl | exact b2i_01 | omega) ?_
    exact ⟨congrArg (fun z => some (vi z)) (show (1 : Int) = b2i (tb w (5 * a + c)) by omega), rfl, rfl⟩
set_option maxHeartbeats 4000000 in
set_option maxRecDepth 100000 in
theorem li_X8_isWhole {w i : Int} (hM : ModS S m) (hg : μ m 13 = gn) (hn : 1 ≤ gn ∧ gn ≤ 5) (hi : 0 ≤ i ∧ i < gn) (hh : ∀ (z : Int) (L : List Value), z = b2i (WP w (i + 1) 0) → V l G cX8_isWhole (yX8_isWhole, 5, (some FieldType.boolean), 1, 0, 0) (Ri S (b2i (WhR gn (RB w))) μ) (0, 0) S μ 4 ([.ref m, vi w, vi z, vi (i + 1)] ++ L) []) : ∀ (N : Nat) (j z : Int), (0 ≤ j ∧ j ≤ i) → i - j < N → z = b2i (WP w i j) → V l G cX8_isWhole (yX8_isWhole, 5, (some FieldType.boolean), 1, 0, 0) (Ri S (b2i (WhR gn (RB w))) μ) (0, 0) S μ 15 [.ref m, vi w, vi z, vi i, vi j] [] := by
  intro N
  induction N with
  | zero => intros; omega
  | succ N ih =>
    intro j z h0 h1 hz
    have rb := b2i_01 (p := WP w i j)
    refine v_iload aX8_isWhole_15 rfl ?_
    refine v_iload_n aX8_isWhole_17 rfl ?_
    refine v_icmp_ge 57 rfl aX8_isWhole_18 (by omega) (by omega) (fun c18 => ?_) (fun c18 => ?_)
    · --
      refine v_iinc aX8_isWhole_57 rfl (by decide) rfl ?_
      refine v_goto 4 rfl aX8_isWhole_60 ?_
      obtain rfl : j = i := by omega
      exact hh z [vi j] (by rw [hz]; exact b2i_c WP_next.symm)
    · --
      refine v_iload_n aX8_isWhole_21 rfl ?_
      refine v_if_eq 49 rfl aX8_isWhole_22 (by omega) (fun c22 => ?_) (fun c22 => ?_)
      · --
        refine v_iconst aX8_isWhole_49 ?_
        refine v_istore_n aX8_isWhole_50 (by decide) rfl ?_
        refine v_iinc aX8_isWhole_51 rfl (by decide) rfl ?_
        refine v_goto 15 rfl aX8_isWhole_54 ?_
        refine ih (j + 1) _ (by omega) (by omega) ?_
        rw [b2i_f (fun q => b2i_0.mp (hz.symm.trans c22) ((WP_s (by omega) (by omega)).mp q).1)]
      · --
        refine v_iload_n aX8_isWhole_25 rfl ?_
        refine v_iload_n aX8_isWhole_26 rfl ?_
        refine v_iload aX8_isWhole_27 rfl ?_
        refine v_cSi (c_X8_isOver (by omega) (by omega)) aX8_isWhole_29 mX8_isOver sX8_isOver lX8_142 rfl rfl (Nat.le_of_ble_eq_true rfl) ⟨Nat.le_of_ble_eq_true rfl, Nat.le_of_ble_eq_true rfl⟩ (Nat.le_of_ble_eq_true rfl) ?_
        refine v_if_ne_b 45 rfl aX8_isWhole_32 (fun c32 => ?_) (fun c32 => ?_)
        · --
          refine v_iconst aX8_isWhole_45 ?_
          refine v_goto 50 rfl aX8_isWhole_46 ?_
          refine v_istore_n aX8_isWhole_50 (by decide) rfl ?_
          refine v_iinc aX8_isWhole_51 rfl (by decide) rfl ?_
          refine v_goto 15 rfl aX8_isWhole_54 ?_
          refine ih (j + 1) _ (by omega) (by omega) ?_
          rw [b2i_t ((WP_s (by omega) (by omega)).mpr ⟨b2i_1.mp (by omega), Or.inl c32⟩)]
        · --
          refine v_iload_n aX8_isWhole_35 rfl ?_
          refine v_iload aX8_isWhole_36 rfl ?_
          refine v_iload_n aX8_isWhole_38 rfl ?_
          refine v_cSi (c_X8_isOver (by omega) (by omega)) aX8_isWhole_39 mX8_isOver sX8_isOver lX8_142 rfl rfl (Nat.le_of_ble_eq_true rfl) ⟨Nat.le_of_ble_eq_true rfl, Nat.le_of_ble_eq_true rfl⟩ (Nat.le_of_ble_eq_true rfl) ?_
          refine v_if_eq_b 49 rfl aX8_isWhole_42 (fun c42 => ?_) (fun c42 => ?_)
          · --
            refine v_iconst aX8_isWhole_49 ?_
            refine v_istore_n aX8_isWhole_50 (by decide) rfl ?_
            refine v_iinc aX8_isWhole_51 rfl (by decide) rfl ?_
            refine v_goto 15 rfl aX8_isWhole_54 ?_
            refine ih (j + 1) _ (by omega) (by omega) ?_
            rw [b2i_f (fun q => ((WP_s (by omega) (by omega)).mp q).2.elim c32 c42)]
          · --
            refine v_iconst aX8_isWhole_45 ?_
            refine v_goto 50 rfl aX8_isWhole_46 ?_
            refine v_istore_n aX8_isWhole_50 (by decide) rfl ?_
            refine v_iinc aX8_isWhole_51 rfl (by decide) rfl ?_
            refine v_goto 15 rfl aX8_isWhole_54 ?_
            refine ih (j + 1) _ (by omega) (by omega) ?_
            rw [b2i_t ((WP_s (by omega) (by omega)).mpr ⟨b2i_1.mp (by omega), Or.inr c42⟩)]
set_option maxHeartbeats 4000000 in
set_option maxRecDepth 100000 in
theorem lo_X8_isWhole {w : Int} (hM : ModS S m) (hg : μ m 13 = gn) (hn : 1 ≤ gn ∧ gn ≤ 5) : ∀ (N : Nat) (i z : Int) (L : List Value), (0 ≤ i ∧ i ≤ gn) → gn - i < N → z = b2i (WP w i 0) → V l G cX8_isWhole (yX8_isWhole, 5, (some FieldType.boolean), 1, 0, 0) (Ri S (b2i (WhR gn (RB w))) μ) (0, 0) S μ 4 ([.ref m, vi w, vi z, vi i] ++ L) [] := by
  intro N
  induction N with
  | zero => intros; omega
  | succ N ih =>
    intro i z L h0 h1 hz
    refine v_take 4 rfl ?_
    show V _ _ _ _ _ _ _ _ _ [.ref m, vi w, vi z, vi i] _
    have rb := b2i_01 (p := WP w i 0)
    refine v_iload_n aX8_isWhole_4 rfl ?_
    refine v_aload_n aX8_isWhole_5 rfl ?_
    refine v_gi 13 rfl aX8_isWhole_6 fX8_118 hM.p rfl rfl ?_
    refine v_icmp_ge 63 rfl aX8_isWhole_9 (by omega) (by omega) (fun c9 => ?_) (fun c9 => ?_)
    · --
      refine v_iload_n aX8_isWhole_63 rfl ?_
      refine v_zreturn aX8_isWhole_64 rfl ⟨Nat.le_refl _, Nat.le_refl _⟩ (by first | exact Or.inl rfl | exact Or.inr rfl | exact b2i_01 | omega) ?_
      obtain rfl : i = gn := by omega
      exact ⟨by rw [hz, b2i_c (WP_wh h0.1)], rfl, rfl⟩
    · --
      refine v_iconst aX8_isWhole_12 ?_
      refine v_istore aX8_isWhole_13 (by decide) rfl ?_
      exact li_X8_isWhole hM hg hn (by omega) (fun z2 L2 h2 => ih (i + 1) z2 L2 (by omega) (by omega) h2) 6 0 z (by omega) (by omega) hz
set_option maxHeartbeats 4000000 in
set_option maxRecDepth 100000 in
theorem c_X8_isWhole {w : Int} (hM : ModS S m) (hg : μ m 13 = gn) (hn : 1 ≤ gn ∧ gn ≤ 5) : Ct l G cX8_isWhole (yX8_isWhole, 5, (some FieldType.boolean), 1, 0, 0) [.ref m, vi w] S μ (Ri S (b2i (WhR gn (RB w))) μ) := by
  refine Ct.of (by decide) rfl (by simp [vi, Value.category]) (Nat.le_of_ble_eq_true rfl) ?_
  refine v_iconst aX8_isWhole_0 ?_
  refine v_istore_n aX8_isWhole_1 (by decide) rfl ?_
  refine v_iconst aX8_isWhole_2 ?_
  refine v_istore_n aX8_isWhole_3 (by decide) rfl ?_
  exact lo_X8_isWhole hM hg hn 6 0 1 [] (by omega) (by omega) (b2i_t (fun a c c0 l q => by omega)).symm
set_option maxHeartbeats 4000000 in
set_option maxRecDepth 100000 in
theorem li_X8_with {w h g i : Int} (hM : ModS S m) (hg : μ m 13 = gn) (hn : 1 ≤ gn ∧ gn ≤ 5) (hw : OW gn w) (hh : 0 ≤ h ∧ h < gn) (hl : 0 ≤ g ∧ g < gn) (hi : 0 ≤ i ∧ i < gn) (hk : ∀ (r : Int) (L : List Value), WJ w h g (i + 1) 0 r → V l G cX8_with (yX8_with, 9, (some FieldType.int), 1, 0, 0) (Re S (fun z μ' => μ' = μ ∧ JB w h g z)) (0, 0) S μ 6 ([.ref m, vi w, vi h, vi g, vi r, vi (i + 1)] ++ L) []) : ∀ (N : Nat) (j r : Int) (L : List Value), (0 ≤ j ∧ j ≤ gn) → gn - j < N → WJ w h g i j r → V l G cX8_with (yX8_with, 9, (some FieldType.int), 1, 0, 0) (Re S (fun z μ' => μ' = μ ∧ JB w h g z)) (0, 0) S μ 18 ([.ref m, vi w, vi h, vi g, vi r, vi i, vi j] ++ L) [] := by
  intro N
  induction N with
  | zero => intros; omega
  | succ N ih =>
    intro j r L h0 h1 hj
    refine v_take 7 rfl ?_
    show V _ _ _ _ _ _ _ _ _ [.ref m, vi w, vi h, vi g, vi r, vi i, vi j] _
    refine v_iload aX8_with_18 rfl ?_
    refine v_aload_n aX8_with_20 rfl ?_
    refine v_gi 13 rfl aX8_with_21 fX8_118 hM.p rfl rfl ?_
    refine v_icmp_ge 107 rfl aX8_with_24 (by omega) (by omega) (fun c24 => ?_) (fun c24 => ?_)
    · --
      refine v_iinc aX8_with_107 rfl (by decide) rfl ?_
      refine v_goto 6 rfl aX8_with_110 ?_
      exact hk r [vi j] (WJ_next hw hl hj (by omega))
    · --
      refine v_iload aX8_with_27 rfl ?_
      refine v_iload_n aX8_with_29 rfl ?_
      refine v_icmp_eq 43 rfl aX8_with_30 (by omega) (by omega) (fun c30 => ?_) (fun c30 => ?_)
      · --
        refine v_iconst aX8_with_43 ?_
        refine v_goto 48 rfl aX8_with_44 ?_
        refine v_top (w := b2i (i = h ∨ tb w (5 * i + h))) (by first | exact (b2i_t (Or.inl c30)).symm | exact (b2i_t (Or.inr c40)).symm | exact (b2i_f (fun q => q.elim c30 c40)).symm) ?_
        refine v_istore aX8_with_48 (by decide) rfl ?_
        refine v_iload aX8_with_50 rfl ?_
        refine v_iload_n aX8_with_52 rfl ?_
        refine v_icmp_eq 66 rfl aX8_with_53 (by omega) (by omega) (fun c53 => ?_) (fun c53 => ?_)
        · --
          refine v_iconst aX8_with_66 ?_
          refine v_goto 71 rfl aX8_with_67 ?_
          refine v_top (w := b2i (j = g ∨ tb w (5 * g + j))) (by first | exact (b2i_t (Or.inl c53)).symm | exact (b2i_t (Or.inr c63)).symm | exact (b2i_f (fun q => q.elim c53 c63)).symm) ?_
          refine v_istore aX8_with_71 (by decide) rfl ?_
          refine v_iload aX8_with_73 rfl ?_
          refine v_iload aX8_with_75 rfl ?_
          refine v_if_eq_b 97 rfl aX8_with_77 (fun c77 => ?_) (fun c77 => ?_)
          · --
            refine v_iconst aX8_with_97 ?_
            refine v_ior aX8_with_98 ?_
            refine v_istore aX8_with_99 (by decide) rfl ?_
            refine v_iinc aX8_with_101 rfl (by decide) rfl ?_
            refine v_goto 18 rfl aX8_with_104 ?_
            rw [or0 hj.1]
            exact ih (j + 1) _ [vi _, vi _] (by omega) (by omega) (WJ_no hj (fun q => c77 q.1))
          · --
            refine v_iload aX8_with_80 rfl ?_
            refine v_if_eq_b 97 rfl aX8_with_82 (fun c82 => ?_) (fun c82 => ?_)
            · --
              refine v_iconst aX8_with_97 ?_
              refine v_ior aX8_with_98 ?_
              refine v_istore aX8_with_99 (by decide) rfl ?_
              refine v_iinc aX8_with_101 rfl (by decide) rfl ?_
              refine v_goto 18 rfl aX8_with_104 ?_
              rw [or0 hj.1]
              exact ih (j + 1) _ [vi _, vi _] (by omega) (by omega) (WJ_no hj (fun q => c82 q.2))
            · --
              refine v_iconst aX8_with_85 ?_
              refine v_iconst aX8_with_86 ?_
              refine v_iload aX8_with_87 rfl ?_
              refine v_imul aX8_with_89 ?_
              refine v_iload aX8_with_90 rfl ?_
              refine v_iadd aX8_with_92 ?_
              refine v_ishl aX8_with_93 ?_
              refine v_goto 98 rfl aX8_with_94 ?_
              refine v_ior aX8_with_98 ?_
              refine v_istore aX8_with_99 (by decide) rfl ?_
              refine v_iinc aX8_with_101 rfl (by decide) rfl ?_
              refine v_goto 18 rfl aX8_with_104 ?_
              exact ih (j + 1) _ [vi _, vi _] (by omega) (by omega) (WJ_yes hj (by omega) (by omega) c77 c82)
        · --
          refine v_iload_n aX8_with_56 rfl ?_
          refine v_iload_n aX8_with_57 rfl ?_
          refine v_iload aX8_with_58 rfl ?_
          refine v_cSi (c_X8_isOver (by omega) (by omega)) aX8_with_60 mX8_isOver sX8_isOver lX8_142 rfl rfl (Nat.le_of_ble_eq_true rfl) ⟨Nat.le_of_ble_eq_true rfl, Nat.le_of_ble_eq_true rfl⟩ (Nat.le_of_ble_eq_true rfl) ?_
          refine v_if_eq_b 70 rfl aX8_with_63 (fun c63 => ?_) (fun c63 => ?_)
          · --
            refine v_iconst aX8_with_70 ?_
            refine v_top (w := b2i (j = g ∨ tb w (5 * g + j))) (by first | exact (b2i_t (Or.inl c53)).symm | exact (b2i_t (Or.inr c63)).symm | exact (b2i_f (fun q => q.elim c53 c63)).symm) ?_
            refine v_istore aX8_with_71 (by decide) rfl ?_
            refine v_iload aX8_with_73 rfl ?_
            refine v_iload aX8_with_75 rfl ?_
            refine v_if_eq_b 97 rfl aX8_with_77 (fun c77 => ?_) (fun c77 => ?_)
            · --
              refine v_iconst aX8_with_97 ?_
              refine v_ior aX8_with_98 ?_
              refine v_istore aX8_with_99 (by decide) rfl ?_
              refine v_iinc aX8_with_101 rfl (by decide) rfl ?_
              refine v_goto 18 rfl aX8_with_104 ?_
              rw [or0 hj.1]
              exact ih (j + 1) _ [vi _, vi _] (by omega) (by omega) (WJ_no hj (fun q => c77 q.1))
            · --
              refine v_iload aX8_with_80 rfl ?_
              refine v_if_eq_b 97 rfl aX8_with_82 (fun c82 => ?_) (fun c82 => ?_)
              · --
                refine v_iconst aX8_with_97 ?_
                refine v_ior aX8_with_98 ?_
                refine v_istore aX8_with_99 (by decide) rfl ?_
                refine v_iinc aX8_with_101 rfl (by decide) rfl ?_
                refine v_goto 18 rfl aX8_with_104 ?_
                rw [or0 hj.1]
                exact ih (j + 1) _ [vi _, vi _] (by omega) (by omega) (WJ_no hj (fun q => c82 q.2))
              · --
                refine v_iconst aX8_with_85 ?_
                refine v_iconst aX8_with_86 ?_
                refine v_iload aX8_with_87 rfl ?_
                refine v_imul aX8_with_89 ?_
                refine v_iload aX8_with_90 rfl ?_
                refine v_iadd aX8_with_92 ?_
                refine v_ishl aX8_with_93 ?_
                refine v_goto 98 rfl aX8_with_94 ?_
                refine v_ior aX8_with_98 ?_
                refine v_istore aX8_with_99 (by decide) rfl ?_
                refine v_iinc aX8_with_101 rfl (by decide) rfl ?_
                refine v_goto 18 rfl aX8_with_104 ?_
                exact ih (j + 1) _ [vi _, vi _] (by omega) (by omega) (WJ_yes hj (by omega) (by omega) c77 c82)
          · --
            refine v_iconst aX8_with_66 ?_
            refine v_goto 71 rfl aX8_with_67 ?_
            refine v_top (w := b2i (j = g ∨ tb w (5 * g + j))) (by first | exact (b2i_t (Or.inl c53)).symm | exact (b2i_t (Or.inr c63)).symm | exact (b2i_f (fun q => q.elim c53 c63)).symm) ?_
            refine v_istore aX8_with_71 (by decide) rfl ?_
            refine v_iload aX8_with_73 rfl ?_
            refine v_iload aX8_with_75 rfl ?_
            refine v_if_eq_b 97 rfl aX8_with_77 (fun c77 => ?_) (fun c77 => ?_)
            · --
              refine v_iconst aX8_with_97 ?_
              refine v_ior aX8_with_98 ?_
              refine v_istore aX8_with_99 (by decide) rfl ?_
              refine v_iinc aX8_with_101 rfl (by decide) rfl ?_
              refine v_goto 18 rfl aX8_with_104 ?_
              rw [or0 hj.1]
              exact ih (j + 1) _ [vi _, vi _] (by omega) (by omega) (WJ_no hj (fun q => c77 q.1))
            · --
              refine v_iload aX8_with_80 rfl ?_
              refine v_if_eq_b 97 rfl aX8_with_82 (fun c82 => ?_) (fun c82 => ?_)
              · --
                refine v_iconst aX8_with_97 ?_
                refine v_ior aX8_with_98 ?_
                refine v_istore aX8_with_99 (by decide) rfl ?_
                refine v_iinc aX8_with_101 rfl (by decide) rfl ?_
                refine v_goto 18 rfl aX8_with_104 ?_
                rw [or0 hj.1]
                exact ih (j + 1) _ [vi _, vi _] (by omega) (by omega) (WJ_no hj (fun q => c82 q.2))
              · --
                refine v_iconst aX8_with_85 ?_
                refine v_iconst aX8_with_86 ?_
                refine v_iload aX8_with_87 rfl ?_
                refine v_imul aX8_with_89 ?_
                refine v_iload aX8_with_90 rfl ?_
                refine v_iadd aX8_with_92 ?_
                refine v_ishl aX8_with_93 ?_
                refine v_goto 98 rfl aX8_with_94 ?_
                refine v_ior aX8_with_98 ?_
                refine v_istore aX8_with_99 (by decide) rfl ?_
                refine v_iinc aX8_with_101 rfl (by decide) rfl ?_
                refine v_goto 18 rfl aX8_with_104 ?_
                exact ih (j + 1) _ [vi _, vi _] (by omega) (by omega) (WJ_yes hj (by omega) (by omega) c77 c82)
      · --
        refine v_iload_n aX8_with_33 rfl ?_
        refine v_iload aX8_with_34 rfl ?_
        refine v_iload_n aX8_with_36 rfl ?_
        refine v_cSi (c_X8_isOver (by omega) (by omega)) aX8_with_37 mX8_isOver sX8_isOver lX8_142 rfl rfl (Nat.le_of_ble_eq_true rfl) ⟨Nat.le_of_ble_eq_true rfl, Nat.le_of_ble_eq_true rfl⟩ (Nat.le_of_ble_eq_true rfl) ?_
        refine v_if_eq_b 47 rfl aX8_with_40 (fun c40 => ?_) (fun c40 => ?_)
        · --
          refine v_iconst aX8_with_47 ?_
          refine v_top (w := b2i (i = h ∨ tb w (5 * i + h))) (by first | exact (b2i_t (Or.inl c30)).symm | exact (b2i_t (Or.inr c40)).symm | exact (b2i_f (fun q => q.elim c30 c40)).symm) ?_
          refine v_istore aX8_with_48 (by decide) rfl ?_
          refine v_iload aX8_with_50 rfl ?_
          refine v_iload_n aX8_with_52 rfl ?_
          refine v_icmp_eq 66 rfl aX8_with_53 (by omega) (by omega) (fun c53 => ?_) (fun c53 => ?_)
          · --
            refine v_iconst aX8_with_66 ?_
            refine v_goto 71 rfl aX8_with_67 ?_
            refine v_top (w := b2i (j = g ∨ tb w (5 * g + j))) (by first | exact (b2i_t (Or.inl c53)).symm | exact (b2i_t (Or.inr c63)).symm | exact (b2i_f (fun q => q.elim c53 c63)).symm) ?_
            refine v_istore aX8_with_71 (by decide) rfl ?_
            refine v_iload aX8_with_73 rfl ?_
            refine v_iload aX8_with_75 rfl ?_
            refine v_if_eq_b 97 rfl aX8_with_77 (fun c77 => ?_) (fun c77 => ?_)
            · --
              refine v_iconst aX8_with_97 ?_
              refine v_ior aX8_with_98 ?_
              refine v_istore aX8_with_99 (by decide) rfl ?_
              refine v_iinc aX8_with_101 rfl (by decide) rfl ?_
              refine v_goto 18 rfl aX8_with_104 ?_
              rw [or0 hj.1]
              exact ih (j + 1) _ [vi _, vi _] (by omega) (by omega) (WJ_no hj (fun q => c77 q.1))
            · --
              refine v_iload aX8_with_80 rfl ?_
              refine v_if_eq_b 97 rfl aX8_with_82 (fun c82 => ?_) (fun c82 => ?_)
              · --
                refine v_iconst aX8_with_97 ?_
                refine v_ior aX8_with_98 ?_
                refine v_istore aX8_with_99 (by decide) rfl ?_
                refine v_iinc aX8_with_101 rfl (by decide) rfl ?_
                refine v_goto 18 rfl aX8_with_104 ?_
                rw [or0 hj.1]
                exact ih (j + 1) _ [vi _, vi _] (by omega) (by omega) (WJ_no hj (fun q => c82 q.2))
              · --
                refine v_iconst aX8_with_85 ?_
                refine v_iconst aX8_with_86 ?_
                refine v_iload aX8_with_87 rfl ?_
                refine v_imul aX8_with_89 ?_
                refine v_iload aX8_with_90 rfl ?_
                refine v_iadd aX8_with_92 ?_
                refine v_ishl aX8_with_93 ?_
                refine v_goto 98 rfl aX8_with_94 ?_
                refine v_ior aX8_with_98 ?_
                refine v_istore aX8_with_99 (by decide) rfl ?_
                refine v_iinc aX8_with_101 rfl (by decide) rfl ?_
                refine v_goto 18 rfl aX8_with_104 ?_
                exact ih (j + 1) _ [vi _, vi _] (by omega) (by omega) (WJ_yes hj (by omega) (by omega) c77 c82)
          · --
            refine v_iload_n aX8_with_56 rfl ?_
            refine v_iload_n aX8_with_57 rfl ?_
            refine v_iload aX8_with_58 rfl ?_
            refine v_cSi (c_X8_isOver (by omega) (by omega)) aX8_with_60 mX8_isOver sX8_isOver lX8_142 rfl rfl (Nat.le_of_ble_eq_true rfl) ⟨Nat.le_of_ble_eq_true rfl, Nat.le_of_ble_eq_true rfl⟩ (Nat.le_of_ble_eq_true rfl) ?_
            refine v_if_eq_b 70 rfl aX8_with_63 (fun c63 => ?_) (fun c63 => ?_)
            · --
              refine v_iconst aX8_with_70 ?_
              refine v_top (w := b2i (j = g ∨ tb w (5 * g + j))) (by first | exact (b2i_t (Or.inl c53)).symm | exact (b2i_t (Or.inr c63)).symm | exact (b2i_f (fun q => q.elim c53 c63)).symm) ?_
              refine v_istore aX8_with_71 (by decide) rfl ?_
              refine v_iload aX8_with_73 rfl ?_
              refine v_iload aX8_with_75 rfl ?_
              refine v_if_eq_b 97 rfl aX8_with_77 (fun c77 => ?_) (fun c77 => ?_)
              · --
                refine v_iconst aX8_with_97 ?_
                refine v_ior aX8_with_98 ?_
                refine v_istore aX8_with_99 (by decide) rfl ?_
                refine v_iinc aX8_with_101 rfl (by decide) rfl ?_
                refine v_goto 18 rfl aX8_with_104 ?_
                rw [or0 hj.1]
                exact ih (j + 1) _ [vi _, vi _] (by omega) (by omega) (WJ_no hj (fun q => c77 q.1))
              · --
                refine v_iload aX8_with_80 rfl ?_
                refine v_if_eq_b 97 rfl aX8_with_82 (fun c82 => ?_) (fun c82 => ?_)
                · --
                  refine v_iconst aX8_with_97 ?_
                  refine v_ior aX8_with_98 ?_
                  refine v_istore aX8_with_99 (by decide) rfl ?_
                  refine v_iinc aX8_with_101 rfl (by decide) rfl ?_
                  refine v_goto 18 rfl aX8_with_104 ?_
                  rw [or0 hj.1]
                  exact ih (j + 1) _ [vi _, vi _] (by omega) (by omega) (WJ_no hj (fun q => c82 q.2))
                · --
                  refine v_iconst aX8_with_85 ?_
                  refine v_iconst aX8_with_86 ?_
                  refine v_iload aX8_with_87 rfl ?_
                  refine v_imul aX8_with_89 ?_
                  refine v_iload aX8_with_90 rfl ?_
                  refine v_iadd aX8_with_92 ?_
                  refine v_ishl aX8_with_93 ?_
                  refine v_goto 98 rfl aX8_with_94 ?_
                  refine v_ior aX8_with_98 ?_
                  refine v_istore aX8_with_99 (by decide) rfl ?_
                  refine v_iinc aX8_with_101 rfl (by decide) rfl ?_
                  refine v_goto 18 rfl aX8_with_104 ?_
                  exact ih (j + 1) _ [vi _, vi _] (by omega) (by omega) (WJ_yes hj (by omega) (by omega) c77 c82)
            · --
              refine v_iconst aX8_with_66 ?_
              refine v_goto 71 rfl aX8_with_67 ?_
              refine v_top (w := b2i (j = g ∨ tb w (5 * g + j))) (by first | exact (b2i_t (Or.inl c53)).symm | exact (b2i_t (Or.inr c63)).symm | exact (b2i_f (fun q => q.elim c53 c63)).symm) ?_
              refine v_istore aX8_with_71 (by decide) rfl ?_
              refine v_iload aX8_with_73 rfl ?_
              refine v_iload aX8_with_75 rfl ?_
              refine v_if_eq_b 97 rfl aX8_with_77 (fun c77 => ?_) (fun c77 => ?_)
              · --
                refine v_iconst aX8_with_97 ?_
                refine v_ior aX8_with_98 ?_
                refine v_istore aX8_with_99 (by decide) rfl ?_
                refine v_iinc aX8_with_101 rfl (by decide) rfl ?_
                refine v_goto 18 rfl aX8_with_104 ?_
                rw [or0 hj.1]
                exact ih (j + 1) _ [vi _, vi _] (by omega) (by omega) (WJ_no hj (fun q => c77 q.1))
              · --
                refine v_iload aX8_with_80 rfl ?_
                refine v_if_eq_b 97 rfl aX8_with_82 (fun c82 => ?_) (fun c82 => ?_)
                · --
                  refine v_iconst aX8_with_97 ?_
                  refine v_ior aX8_with_98 ?_
                  refine v_istore aX8_with_99 (by decide) rfl ?_
                  refine v_iinc aX8_with_101 rfl (by decide) rfl ?_
                  refine v_goto 18 rfl aX8_with_104 ?_
                  rw [or0 hj.1]
                  exact ih (j + 1) _ [vi _, vi _] (by omega) (by omega) (WJ_no hj (fun q => c82 q.2))
                · --
                  refine v_iconst aX8_with_85 ?_
                  refine v_iconst aX8_with_86 ?_
                  refine v_iload aX8_with_87 rfl ?_
                  refine v_imul aX8_with_89 ?_
                  refine v_iload aX8_with_90 rfl ?_
                  refine v_iadd aX8_with_92 ?_
                  refine v_ishl aX8_with_93 ?_
                  refine v_goto 98 rfl aX8_with_94 ?_
                  refine v_ior aX8_with_98 ?_
                  refine v_istore aX8_with_99 (by decide) rfl ?_
                  refine v_iinc aX8_with_101 rfl (by decide) rfl ?_
                  refine v_goto 18 rfl aX8_with_104 ?_
                  exact ih (j + 1) _ [vi _, vi _] (by omega) (by omega) (WJ_yes hj (by omega) (by omega) c77 c82)
        · --
          refine v_iconst aX8_with_43 ?_
          refine v_goto 48 rfl aX8_with_44 ?_
          refine v_top (w := b2i (i = h ∨ tb w (5 * i + h))) (by first | exact (b2i_t (Or.inl c30)).symm | exact (b2i_t (Or.inr c40)).symm | exact (b2i_f (fun q => q.elim c30 c40)).symm) ?_
          refine v_istore aX8_with_48 (by decide) rfl ?_
          refine v_iload aX8_with_50 rfl ?_
          refine v_iload_n aX8_with_52 rfl ?_
          refine v_icmp_eq 66 rfl aX8_with_53 (by omega) (by omega) (fun c53 => ?_) (fun c53 => ?_)
          · --
            refine v_iconst aX8_with_66 ?_
            refine v_goto 71 rfl aX8_with_67 ?_
            refine v_top (w := b2i (j = g ∨ tb w (5 * g + j))) (by first | exact (b2i_t (Or.inl c53)).symm | exact (b2i_t (Or.inr c63)).symm | exact (b2i_f (fun q => q.elim c53 c63)).symm) ?_
            refine v_istore aX8_with_71 (by decide) rfl ?_
            refine v_iload aX8_with_73 rfl ?_
            refine v_iload aX8_with_75 rfl ?_
            refine v_if_eq_b 97 rfl aX8_with_77 (fun c77 => ?_) (fun c77 => ?_)
            · --
              refine v_iconst aX8_with_97 ?_
              refine v_ior aX8_with_98 ?_
              refine v_istore aX8_with_99 (by decide) rfl ?_
              refine v_iinc aX8_with_101 rfl (by decide) rfl ?_
              refine v_goto 18 rfl aX8_with_104 ?_
              rw [or0 hj.1]
              exact ih (j + 1) _ [vi _, vi _] (by omega) (by omega) (WJ_no hj (fun q => c77 q.1))
            · --
              refine v_iload aX8_with_80 rfl ?_
              refine v_if_eq_b 97 rfl aX8_with_82 (fun c82 => ?_) (fun c82 => ?_)
              · --
                refine v_iconst aX8_with_97 ?_
                refine v_ior aX8_with_98 ?_
                refine v_istore aX8_with_99 (by decide) rfl ?_
                refine v_iinc aX8_with_101 rfl (by decide) rfl ?_
                refine v_goto 18 rfl aX8_with_104 ?_
                rw [or0 hj.1]
                exact ih (j + 1) _ [vi _, vi _] (by omega) (by omega) (WJ_no hj (fun q => c82 q.2))
              · --
                refine v_iconst aX8_with_85 ?_
                refine v_iconst aX8_with_86 ?_
                refine v_iload aX8_with_87 rfl ?_
                refine v_imul aX8_with_89 ?_
                refine v_iload aX8_with_90 rfl ?_
                refine v_iadd aX8_with_92 ?_
                refine v_ishl aX8_with_93 ?_
                refine v_goto 98 rfl aX8_with_94 ?_
                refine v_ior aX8_with_98 ?_
                refine v_istore aX8_with_99 (by decide) rfl ?_
                refine v_iinc aX8_with_101 rfl (by decide) rfl ?_
                refine v_goto 18 rfl aX8_with_104 ?_
                exact ih (j + 1) _ [vi _, vi _] (by omega) (by omega) (WJ_yes hj (by omega) (by omega) c77 c82)
          · --
            refine v_iload_n aX8_with_56 rfl ?_
            refine v_iload_n aX8_with_57 rfl ?_
            refine v_iload aX8_with_58 rfl ?_
            refine v_cSi (c_X8_isOver (by omega) (by omega)) aX8_with_60 mX8_isOver sX8_isOver lX8_142 rfl rfl (Nat.le_of_ble_eq_true rfl) ⟨Nat.le_of_ble_eq_true rfl, Nat.le_of_ble_eq_true rfl⟩ (Nat.le_of_ble_eq_true rfl) ?_
            refine v_if_eq_b 70 rfl aX8_with_63 (fun c63 => ?_) (fun c63 => ?_)
            · --
              refine v_iconst aX8_with_70 ?_
              refine v_top (w := b2i (j = g ∨ tb w (5 * g + j))) (by first | exact (b2i_t (Or.inl c53)).symm | exact (b2i_t (Or.inr c63)).symm | exact (b2i_f (fun q => q.elim c53 c63)).symm) ?_
              refine v_istore aX8_with_71 (by decide) rfl ?_
              refine v_iload aX8_with_73 rfl ?_
              refine v_iload aX8_with_75 rfl ?_
              refine v_if_eq_b 97 rfl aX8_with_77 (fun c77 => ?_) (fun c77 => ?_)
              · --
                refine v_iconst aX8_with_97 ?_
                refine v_ior aX8_with_98 ?_
                refine v_istore aX8_with_99 (by decide) rfl ?_
                refine v_iinc aX8_with_101 rfl (by decide) rfl ?_
                refine v_goto 18 rfl aX8_with_104 ?_
                rw [or0 hj.1]
                exact ih (j + 1) _ [vi _, vi _] (by omega) (by omega) (WJ_no hj (fun q => c77 q.1))
              · --
                refine v_iload aX8_with_80 rfl ?_
                refine v_if_eq_b 97 rfl aX8_with_82 (fun c82 => ?_) (fun c82 => ?_)
                · --
                  refine v_iconst aX8_with_97 ?_
                  refine v_ior aX8_with_98 ?_
                  refine v_istore aX8_with_99 (by decide) rfl ?_
                  refine v_iinc aX8_with_101 rfl (by decide) rfl ?_
                  refine v_goto 18 rfl aX8_with_104 ?_
                  rw [or0 hj.1]
                  exact ih (j + 1) _ [vi _, vi _] (by omega) (by omega) (WJ_no hj (fun q => c82 q.2))
                · --
                  refine v_iconst aX8_with_85 ?_
                  refine v_iconst aX8_with_86 ?_
                  refine v_iload aX8_with_87 rfl ?_
                  refine v_imul aX8_with_89 ?_
                  refine v_iload aX8_with_90 rfl ?_
                  refine v_iadd aX8_with_92 ?_
                  refine v_ishl aX8_with_93 ?_
                  refine v_goto 98 rfl aX8_with_94 ?_
                  refine v_ior aX8_with_98 ?_
                  refine v_istore aX8_with_99 (by decide) rfl ?_
                  refine v_iinc aX8_with_101 rfl (by decide) rfl ?_
                  refine v_goto 18 rfl aX8_with_104 ?_
                  exact ih (j + 1) _ [vi _, vi _] (by omega) (by omega) (WJ_yes hj (by omega) (by omega) c77 c82)
            · --
              refine v_iconst aX8_with_66 ?_
              refine v_goto 71 rfl aX8_with_67 ?_
              refine v_top (w := b2i (j = g ∨ tb w (5 * g + j))) (by first | exact (b2i_t (Or.inl c53)).symm | exact (b2i_t (Or.inr c63)).symm | exact (b2i_f (fun q => q.elim c53 c63)).symm) ?_
              refine v_istore aX8_with_71 (by decide) rfl ?_
              refine v_iload aX8_with_73 rfl ?_
              refine v_iload aX8_with_75 rfl ?_
              refine v_if_eq_b 97 rfl aX8_with_77 (fun c77 => ?_) (fun c77 => ?_)
              · --
                refine v_iconst aX8_with_97 ?_
                refine v_ior aX8_with_98 ?_
                refine v_istore aX8_with_99 (by decide) rfl ?_
                refine v_iinc aX8_with_101 rfl (by decide) rfl ?_
                refine v_goto 18 rfl aX8_with_104 ?_
                rw [or0 hj.1]
                exact ih (j + 1) _ [vi _, vi _] (by omega) (by omega) (WJ_no hj (fun q => c77 q.1))
              · --
                refine v_iload aX8_with_80 rfl ?_
                refine v_if_eq_b 97 rfl aX8_with_82 (fun c82 => ?_) (fun c82 => ?_)
                · --
                  refine v_iconst aX8_with_97 ?_
                  refine v_ior aX8_with_98 ?_
                  refine v_istore aX8_with_99 (by decide) rfl ?_
                  refine v_iinc aX8_with_101 rfl (by decide) rfl ?_
                  refine v_goto 18 rfl aX8_with_104 ?_
                  rw [or0 hj.1]
                  exact ih (j + 1) _ [vi _, vi _] (by omega) (by omega) (WJ_no hj (fun q => c82 q.2))
                · --
                  refine v_iconst aX8_with_85 ?_
                  refine v_iconst aX8_with_86 ?_
                  refine v_iload aX8_with_87 rfl ?_
                  refine v_imul aX8_with_89 ?_
                  refine v_iload aX8_with_90 rfl ?_
                  refine v_iadd aX8_with_92 ?_
                  refine v_ishl aX8_with_93 ?_
                  refine v_goto 98 rfl aX8_with_94 ?_
                  refine v_ior aX8_with_98 ?_
                  refine v_istore aX8_with_99 (by decide) rfl ?_
                  refine v_iinc aX8_with_101 rfl (by decide) rfl ?_
                  refine v_goto 18 rfl aX8_with_104 ?_
                  exact ih (j + 1) _ [vi _, vi _] (by omega) (by omega) (WJ_yes hj (by omega) (by omega) c77 c82)
set_option maxHeartbeats 4000000 in
set_option maxRecDepth 100000 in
theorem lo_X8_with {w h g : Int} (hM : ModS S m) (hg : μ m 13 = gn) (hn : 1 ≤ gn ∧ gn ≤ 5) (hw : OW gn w) (hh : 0 ≤ h ∧ h < gn) (hl : 0 ≤ g ∧ g < gn) : ∀ (N : Nat) (i r : Int) (L : List Value), (0 ≤ i ∧ i ≤ gn) → gn - i < N → WJ w h g i 0 r → V l G cX8_with (yX8_with, 9, (some FieldType.int), 1, 0, 0) (Re S (fun z μ' => μ' = μ ∧ JB w h g z)) (0, 0) S μ 6 ([.ref m, vi w, vi h, vi g, vi r, vi i] ++ L) [] := by
  intro N
  induction N with
  | zero => intros; omega
  | succ N ih =>
    intro i r L h0 h1 hj
    refine v_take 6 rfl ?_
    show V _ _ _ _ _ _ _ _ _ [.ref m, vi w, vi h, vi g, vi r, vi i] _
    refine v_iload aX8_with_6 rfl ?_
    refine v_aload_n aX8_with_8 rfl ?_
    refine v_gi 13 rfl aX8_with_9 fX8_118 hM.p rfl rfl ?_
    refine v_icmp_ge 113 rfl aX8_with_12 (by omega) (by omega) (fun c12 => ?_) (fun c12 => ?_)
    · --
      refine v_iload aX8_with_113 rfl ?_
      refine v_ireturn aX8_with_115 rfl ⟨Nat.le_refl _, Nat.le_refl _⟩ ?_
      obtain rfl : i = gn := by omega
      exact ⟨_, rfl, rfl, rfl, WJ_JB hw hn.2 hh hl hj⟩
    · --
      refine v_iconst aX8_with_15 ?_
      refine v_istore aX8_with_16 (by decide) rfl ?_
      exact li_X8_with hM hg hn hw hh hl (by omega) (fun r2 L2 h2 => ih (i + 1) r2 L2 (by omega) (by omega) h2) 6 0 r [] (by omega) (by omega) hj
set_option maxHeartbeats 4000000 in
set_option maxRecDepth 100000 in
theorem c_X8_with {w h g : Int} (hM : ModS S m) (hg : μ m 13 = gn) (hn : 1 ≤ gn ∧ gn ≤ 5) (hw : OW gn w) (hh : 0 ≤ h ∧ h < gn) (hl : 0 ≤ g ∧ g < gn) : Ct l G cX8_with (yX8_with, 9, (some FieldType.int), 1, 0, 0) [.ref m, vi w, vi h, vi g] S μ (Re S (fun z μ' => μ' = μ ∧ JB w h g z)) := by
  refine Ct.of (by decide) rfl (by simp [vi, Value.category]) (Nat.le_of_ble_eq_true rfl) ?_
  refine v_iload_n aX8_with_0 rfl ?_
  refine v_istore aX8_with_1 (by decide) rfl ?_
  refine v_iconst aX8_with_3 ?_
  refine v_istore aX8_with_4 (by decide) rfl ?_
  exact lo_X8_with hM hg hn hw hh hl 6 0 w [] (by omega) (by omega) (WJ_0 hw.1)
set_option maxHeartbeats 4000000 in
set_option maxRecDepth 100000 in
theorem li_X8_stand {a y : Int} (hM : ModS S m) (hn : 1 ≤ gn ∧ gn ≤ 5) (hT : TbA μ m gn) (ha : OW gn a) (hy : (0 ≤ y ∧ y < gn) ∨ y = 5) : ∀ (N : Nat) (d s : Int), (0 ≤ d ∧ d ≤ 65535) → 65536 - d < N → s = (slF a y + d) % 65536 → (∀ e : Int, 0 ≤ e → e < d → 0 ≤ μ (m + 16) ((slF a y + e) % 65536) ∧ ¬ (μ (m + 13) (μ (m + 16) ((slF a y + e) % 65536)) = a ∧ μ (m + 14) (μ (m + 16) ((slF a y + e) % 65536)) = y)) → V l G cX8_stand (yX8_stand, 4, (some FieldType.int), 1, 0, 0) (Re S (fun z μ' => StP μ μ' m gn a y z)) (0, 0) S μ 6 [.ref m, vi a, vi y, vi s] [] := by
  intro N
  induction N with
  | zero => intros; omega
  | succ N ih =>
    intro d s h0 h1 hs hp
    have sr := slF_r (a := a) (y := y)
    have ar := ha.1.lt
    have ar0 := ha.1.1
    have nr := hT.1
    have tr := hT.2.1 s (by omega) (by omega)
    refine v_aload_n aX8_stand_6 rfl ?_
    refine v_getr aX8_stand_7 fX8_61 hM.p rfl rfl ?_
    refine v_iload_n aX8_stand_10 rfl ?_
    refine v_iald aX8_stand_11 hM.p_table (by omega) (by decide) ?_
    refine v_if_lt 55 rfl aX8_stand_12 (by omega) (fun c12 => ?_) (fun c12 => ?_)
    · --
      refine v_aload_n aX8_stand_55 rfl ?_
      refine v_getr aX8_stand_56 fX8_61 hM.p rfl rfl ?_
      refine v_iload_n aX8_stand_59 rfl ?_
      refine v_iald aX8_stand_60 hM.p_table (by omega) (by decide) ?_
      refine v_if_ge 115 rfl aX8_stand_61 (by omega) (fun c61 => ?_) (fun c61 => ?_)
      · omega
      · --
        refine v_aload_n aX8_stand_64 rfl ?_
        refine v_getr aX8_stand_65 fX8_61 hM.p rfl rfl ?_
        refine v_iload_n aX8_stand_68 rfl ?_
        refine v_aload_n aX8_stand_69 rfl ?_
        refine v_gi 17 rfl aX8_stand_70 fX8_139 hM.p rfl rfl ?_
        refine v_top (show _ = μ m 17 by simp [upd2_ap]) ?_
        refine v_iast aX8_stand_73 hM.p_table (by omega) (by decide) ?_
        refine v_aload_n aX8_stand_74 rfl ?_
        refine v_getr aX8_stand_75 fX8_51 hM.p rfl rfl ?_
        refine v_aload_n aX8_stand_78 rfl ?_
        refine v_gi 17 rfl aX8_stand_79 fX8_139 hM.p rfl rfl ?_
        refine v_top (show _ = μ m 17 by simp [upd2_ap]) ?_
        refine v_iload_n aX8_stand_82 rfl ?_
        refine v_iast aX8_stand_83 hM.p_known (by omega) (by decide) ?_
        refine v_aload_n aX8_stand_84 rfl ?_
        refine v_getr aX8_stand_85 fX8_54 hM.p rfl rfl ?_
        refine v_aload_n aX8_stand_88 rfl ?_
        refine v_gi 17 rfl aX8_stand_89 fX8_139 hM.p rfl rfl ?_
        refine v_top (show _ = μ m 17 by simp [upd2_ap]) ?_
        refine v_iload_n aX8_stand_92 rfl ?_
        refine v_iast aX8_stand_93 hM.p_lying (by omega) (by decide) ?_
        refine v_aload_n aX8_stand_94 rfl ?_
        refine v_getr aX8_stand_95 fX8_57 hM.p rfl rfl ?_
        refine v_aload_n aX8_stand_98 rfl ?_
        refine v_gi 17 rfl aX8_stand_99 fX8_139 hM.p rfl rfl ?_
        refine v_top (show _ = μ m 17 by simp [upd2_ap]) ?_
        refine v_bipush (by decide) aX8_stand_102 ?_
        refine v_iast aX8_stand_104 hM.p_value (by omega) (by decide) ?_
        refine v_aload_n aX8_stand_105 rfl ?_
        refine v_dup rfl aX8_stand_106 ?_
        refine v_gi 17 rfl aX8_stand_107 fX8_139 hM.p rfl rfl ?_
        refine v_top (show _ = μ m 17 by simp [upd2_ap]) ?_
        refine v_iconst aX8_stand_110 ?_
        refine v_iadd aX8_stand_111 ?_
        refine v_pi 17 rfl aX8_stand_112 fX8_139 nf8_17 ok8_17 hM.p rfl rfl ?_
        refine v_aload_n aX8_stand_115 rfl ?_
        refine v_getr aX8_stand_116 fX8_61 hM.p rfl rfl ?_
        refine v_iload_n aX8_stand_119 rfl ?_
        refine v_iald aX8_stand_120 hM.p_table (by omega) (by decide) ?_
        refine v_ireturn aX8_stand_121 rfl ⟨Nat.le_refl _, Nat.le_refl _⟩ ?_
        refine ⟨μ m 17, ?_, rfl, ?_⟩
        · simp [upd2_ap]
        · have q1 := upd2_iup (μ := μ) (a := m + 16) (z := s) (x := μ m 17)
          refine ⟨?_, ?_, ?_, ?_, ?_, ?_, ?_⟩
          · unfold TbA
            have e := TbF_ins hn.2 hT ⟨h0.1, by omega⟩ hp (by rw [← hs]; exact c12) ha hy
            rw [← hs] at e
            have e1 : ∀ μ9 : Mu, μ9 = upd2 (upd2 (upd2 (upd2 (upd2 μ (m + 16) s (μ m 17)) (m + 13) (μ m 17) a) (m + 14) (μ m 17) y) (m + 15) (μ m 17) (-6)) m 17 (μ m 17 + 1) → μ9 m 17 = μ m 17 + 1 ∧ μ9 (m + 16) = iup (μ (m + 16)) s (μ m 17) ∧ μ9 (m + 13) = iup (μ (m + 13)) (μ m 17) a ∧ μ9 (m + 14) = iup (μ (m + 14)) (μ m 17) y := fun μ9 e9 => by
              subst e9
              refine ⟨by simp [upd2_ap], ?_, ?_, ?_⟩ <;> funext i <;> simp [upd2_ap, iup]
            obtain ⟨f1, f2, f3, f4⟩ := e1 _ rfl
            rw [f1, f2, f3, f4]; exact e
          · simp [upd2_ap]
            omega
          · simp [upd2_ap]
            omega
          · intro k k0 k1
            simp [upd2_ap]
            omega
          · rintro ⟨k, k0, k1, k2⟩
            exact absurd ⟨k1, k2⟩ (TbF_none hT ⟨h0.1, by omega⟩ hp (by rw [← hs]; exact c12) k k0.1 k0.2)
          · intro q q0 q1 q2 q3 q4
            funext i
            simp [upd2_ap, q0, q1, q2, q3, q4]
          · intro i hi
            simp [upd2_ap, hi]
    · --
      refine v_aload_n aX8_stand_15 rfl ?_
      refine v_getr aX8_stand_16 fX8_51 hM.p rfl rfl ?_
      refine v_aload_n aX8_stand_19 rfl ?_
      refine v_getr aX8_stand_20 fX8_61 hM.p rfl rfl ?_
      refine v_iload_n aX8_stand_23 rfl ?_
      refine v_iald aX8_stand_24 hM.p_table (by omega) (by decide) ?_
      refine v_iald aX8_stand_25 hM.p_known (by omega) (by decide) ?_
      have kr := (hT.2.2.2.2.2 (μ (m + 16) s) (by omega) (by omega)).1.1
      have kr1 := kr.r
      refine v_iload_n aX8_stand_26 rfl ?_
      refine v_icmp_ne 45 rfl aX8_stand_27 (by omega) (by omega) (fun c27 => ?_) (fun c27 => ?_)
      · --
        refine v_iload_n aX8_stand_45 rfl ?_
        refine v_iconst aX8_stand_46 ?_
        refine v_iadd aX8_stand_47 ?_
        refine v_ldc kX8_135 aX8_stand_48 ?_
        refine v_iand aX8_stand_50 ?_
        refine v_istore_n aX8_stand_51 (by decide) rfl ?_
        refine v_goto 6 rfl aX8_stand_52 ?_
        rw [i65535 (by omega)]
        refine ih (d + 1) _ ?_ (by omega) (by rw [hs]; omega) ?_
        · have : d + 1 ≠ 65536 := fun q => TbF_full hT (slF_r (a := a) (y := y)) (fun e e0 e1 => by
            by_cases z : e = d
            · rw [z, ← hs]; omega
            · exact (hp e e0 (by omega)).1)
          omega
        · intro e e0 e1
          by_cases z : e = d
          · rw [z, ← hs]; exact ⟨by omega, fun q => c27 q.1⟩
          · exact hp e e0 (by omega)
      · --
        refine v_aload_n aX8_stand_30 rfl ?_
        refine v_getr aX8_stand_31 fX8_54 hM.p rfl rfl ?_
        refine v_aload_n aX8_stand_34 rfl ?_
        refine v_getr aX8_stand_35 fX8_61 hM.p rfl rfl ?_
        refine v_iload_n aX8_stand_38 rfl ?_
        refine v_iald aX8_stand_39 hM.p_table (by omega) (by decide) ?_
        refine v_iald aX8_stand_40 hM.p_lying (by omega) (by decide) ?_
        have yr := (hT.2.2.2.2.2 (μ (m + 16) s) (by omega) (by omega)).2
        refine v_iload_n aX8_stand_41 rfl ?_
        refine v_icmp_eq 55 rfl aX8_stand_42 (by omega) (by omega) (fun c42 => ?_) (fun c42 => ?_)
        · --
          refine v_aload_n aX8_stand_55 rfl ?_
          refine v_getr aX8_stand_56 fX8_61 hM.p rfl rfl ?_
          refine v_iload_n aX8_stand_59 rfl ?_
          refine v_iald aX8_stand_60 hM.p_table (by omega) (by decide) ?_
          refine v_if_ge 115 rfl aX8_stand_61 (by omega) (fun c61 => ?_) (fun c61 => ?_)
          · --
            refine v_aload_n aX8_stand_115 rfl ?_
            refine v_getr aX8_stand_116 fX8_61 hM.p rfl rfl ?_
            refine v_iload_n aX8_stand_119 rfl ?_
            refine v_iald aX8_stand_120 hM.p_table (by omega) (by decide) ?_
            refine v_ireturn aX8_stand_121 rfl ⟨Nat.le_refl _, Nat.le_refl _⟩ ?_
            exact ⟨_, rfl, rfl, hT, ⟨⟨by omega, by omega⟩, c27, c42⟩, ⟨Int.le_refl _, by omega⟩, fun _ _ _ => ⟨rfl, rfl, rfl⟩, fun _ => rfl, fun _ _ _ _ _ _ => rfl, fun _ _ => rfl⟩
          · omega
        · --
          refine v_iload_n aX8_stand_45 rfl ?_
          refine v_iconst aX8_stand_46 ?_
          refine v_iadd aX8_stand_47 ?_
          refine v_ldc kX8_135 aX8_stand_48 ?_
          refine v_iand aX8_stand_50 ?_
          refine v_istore_n aX8_stand_51 (by decide) rfl ?_
          refine v_goto 6 rfl aX8_stand_52 ?_
          rw [i65535 (by omega)]
          refine ih (d + 1) _ ?_ (by omega) (by rw [hs]; omega) ?_
          · have : d + 1 ≠ 65536 := fun q => TbF_full hT (slF_r (a := a) (y := y)) (fun e e0 e1 => by
              by_cases z : e = d
              · rw [z, ← hs]; omega
              · exact (hp e e0 (by omega)).1)
            omega
          · intro e e0 e1
            by_cases z : e = d
            · rw [z, ← hs]; exact ⟨by omega, fun q => c42 q.2⟩
            · exact hp e e0 (by omega)
set_option maxHeartbeats 4000000 in
set_option maxRecDepth 100000 in
theorem c_X8_stand {a y : Int} (hM : ModS S m) (hn : 1 ≤ gn ∧ gn ≤ 5) (hT : TbA μ m gn) (ha : OW gn a) (hy : (0 ≤ y ∧ y < gn) ∨ y = 5) : Ct l G cX8_stand (yX8_stand, 4, (some FieldType.int), 1, 0, 0) [.ref m, vi a, vi y] S μ (Re S (fun z μ' => StP μ μ' m gn a y z)) := by
  have sr := slF_r (a := a) (y := y)
  have ar := ha.1.lt
  have ar0 := ha.1.1
  refine Ct.of (by decide) rfl (by simp [vi, Value.category]) (Nat.le_of_ble_eq_true rfl) ?_
  refine v_iload_n aX8_stand_0 rfl ?_
  refine v_iload_n aX8_stand_1 rfl ?_
  refine v_cSi (c_X8_slot (by omega)) aX8_stand_2 mX8_slot sX8_slot lX8_136 rfl rfl (Nat.le_of_ble_eq_true rfl) ⟨Nat.le_of_ble_eq_true rfl, Nat.le_of_ble_eq_true rfl⟩ (Nat.le_of_ble_eq_true rfl) ?_
  refine v_istore_n aX8_stand_5 (by decide) rfl ?_
  exact li_X8_stand hM hn hT ha hy 65537 0 _ (by omega) (by omega) (by omega) (fun e e0 e1 => by omega)
end MST
