/-! leaders, groups, ranks: the relation of the class -/
noncomputable def sumN (f : Int → Int) : Nat → Int
  | 0 => 0
  | k + 1 => sumN f k + f (k : Int)
theorem sumN_s {f : Int → Int} {i : Int} (h : 0 ≤ i) : sumN f (i + 1).toNat = sumN f i.toNat + f i := by
  rw [show (i + 1).toNat = i.toNat + 1 by omega]
  show sumN f i.toNat + f (i.toNat : Int) = _
  rw [show ((i.toNat : Nat) : Int) = i by omega]
theorem sumN_c {f g : Int → Int} : ∀ (n : Nat), (∀ i : Int, 0 ≤ i → i < n → f i = g i) → sumN f n = sumN g n
  | 0, _ => rfl
  | n + 1, h => by
    show sumN f n + f (n : Int) = sumN g n + g (n : Int)
    rw [sumN_c n (fun i h0 h1 => h i h0 (by omega)), h (n : Int) (by omega) (by omega)]
theorem sumN_0 {f : Int → Int} (n : Nat) (h : ∀ i : Int, 0 ≤ i → i < n → f i = 0) : sumN f n = 0 := by
  rw [sumN_c (g := fun _ => 0) n h]
  clear h
  induction n with
  | zero => rfl
  | succ n ih => show sumN _ n + 0 = 0; rw [ih]; rfl
theorem sumN_add {f g : Int → Int} : ∀ n : Nat, sumN (fun i => f i + g i) n = sumN f n + sumN g n
  | 0 => rfl
  | n + 1 => by
    show sumN (fun i => f i + g i) n + (f n + g n) = (sumN f n + f n) + (sumN g n + g n)
    rw [sumN_add n]; omega
theorem sumN_swap {f : Int → Int → Int} (m : Nat) : ∀ n : Nat, sumN (fun i => sumN (fun j => f i j) m) n = sumN (fun j => sumN (fun i => f i j) n) m
  | 0 => (sumN_0 m (fun _ _ _ => rfl)).symm
  | n + 1 => by
    show sumN (fun i => sumN (fun j => f i j) m) n + sumN (fun j => f n j) m = sumN (fun j => sumN (fun i => f i j) n + f n j) m
    rw [sumN_swap m n, sumN_add]
theorem sumN_ge {f : Int → Int} {a b : Nat} (h : a ≤ b) (hz : ∀ i : Int, a ≤ i → i < b → f i = 0) : sumN f b = sumN f a := by
  induction b with
  | zero => rw [show a = 0 by omega]
  | succ b ih =>
    by_cases e : a = b + 1
    · rw [e]
    · show sumN f b + f b = _
      rw [ih (by omega) (fun i h0 h1 => hz i h0 (by omega)), hz b (by omega) (by omega)]
      omega
noncomputable def cntP (p : Int → Prop) (n : Nat) : Int := sumN (fun i => b2i (p i)) n
theorem cntP_s {p : Int → Prop} {i : Int} (h : 0 ≤ i) : cntP p (i + 1).toNat = cntP p i.toNat + b2i (p i) := sumN_s h
theorem cntP_c {p q : Int → Prop} (n : Nat) (h : ∀ i : Int, 0 ≤ i → i < n → (p i ↔ q i)) : cntP p n = cntP q n := sumN_c n (fun i h0 h1 => b2i_c (h i h0 h1))
theorem cntP_cut {p : Int → Prop} {a b : Nat} (h : a ≤ b) : cntP (fun i => i < (a : Int) ∧ p i) b = cntP p a := by
  unfold cntP
  rw [sumN_ge h (fun i h0 h1 => b2i_f (fun q => by omega))]
  exact sumN_c a (fun i h0 h1 => b2i_c ⟨fun q => q.2, fun q => ⟨h1, q⟩⟩)
theorem cntP_nn {p : Int → Prop} : ∀ n : Nat, 0 ≤ cntP p n ∧ cntP p n ≤ n
  | 0 => ⟨Int.le_refl _, Int.le_refl _⟩
  | n + 1 => by
    have h := cntP_nn (p := p) n
    have e : cntP p (n + 1) = cntP p n + b2i (p (n : Int)) := rfl
    rcases b2i_01 (p := p (n : Int)) with q | q <;> omega
theorem cntP_mono {p : Int → Prop} {a b : Nat} (h : a ≤ b) : cntP p a ≤ cntP p b := by
  induction b with
  | zero => rw [show a = 0 by omega]; exact Int.le_refl _
  | succ b ih =>
    by_cases e : a = b + 1
    · rw [e]; exact Int.le_refl _
    · have e2 : cntP p (b + 1) = cntP p b + b2i (p (b : Int)) := rfl
      have := ih (by omega)
      rcases b2i_01 (p := p (b : Int)) with q | q <;> omega
def bcF (x : Int) : Int :=
  let a := x - iAnd (iUshr x 1) 1431655765
  let b := iAnd a 858993459 + iAnd (iUshr a 2) 858993459
  let c := iAnd (b + iUshr b 4) 252645135
  let d := c + iUshr c 8
  let e := d + iUshr d 16
  iAnd e 63
def pcN (n : Nat) : Nat → Int
  | 0 => 0
  | k + 1 => pcN n k + (if n.testBit k then 1 else 0)
theorem bc_12a : ∀ a : Nat, a < 64 → ∀ b : Nat, b < 64 → bcF ((64 * a + b : Nat) : Int) = pcN (64 * a + b) 12 := by decide +kernel
theorem bc_12 (n : Nat) (h : n < 4096) : bcF (n : Int) = pcN n 12 := by
  have := bc_12a (n / 64) (by omega) (n % 64) (by omega)
  rwa [show 64 * (n / 64) + n % 64 = n by omega] at this
theorem pcN_cnt {z : Int} (h : 0 ≤ z) : ∀ k : Nat, k ≤ 32 → pcN z.toNat k = cntP (fun j => tb z j) k
  | 0, _ => rfl
  | k + 1, hk => by
    show pcN z.toNat k + (if z.toNat.testBit k then 1 else 0) = cntP (fun j => tb z j) k + b2i (tb z (k : Int))
    rw [pcN_cnt h k (by omega)]
    congr 1
    by_cases e : z.toNat.testBit k = true
    · rw [if_pos e, b2i_t ((tb_nn h).mpr ⟨by simp; omega, by simpa using e⟩)]
    · rw [if_neg e, b2i_f (fun q => e (by simpa using ((tb_nn h).mp q).2))]
theorem bc_cnt {z : Int} (k : Nat) (hk : k ≤ 12) (h : 0 ≤ z) (h2 : z.toNat < 2 ^ k) : bcF z = cntP (fun j => tb z j) k := by
  have h3 : z.toNat < 4096 := Nat.lt_of_lt_of_le h2 (by rw [show 4096 = 2 ^ 12 from rfl]; exact Nat.pow_le_pow_right (by decide) hk)
  have := bc_12 z.toNat h3
  rw [show ((z.toNat : Nat) : Int) = z by omega, pcN_cnt h 12 (by decide)] at this
  rw [this]
  exact sumN_ge hk (fun i h0 h1 => b2i_f (tb_hi k h h2 (by omega)))
theorem Msk.cnt {z : Int} {p : Int → Prop} (h : Msk z p) : bcF z = cntP p 6 := (bc_cnt 6 (by decide) h.1.1 h.1.2).trans (cntP_c 6 (fun i h0 h1 => h.2 i h0 (by omega)))
section RELD
variable {l : Launch} {G : Glb} {S : Sh} {μ : Mu} {b : Nat} {R : Rl}
set_option maxHeartbeats 4000000 in
set_option maxRecDepth 100000 in
theorem c_J6_bitCount_0f7a4 {x : Int} : Ct l G cJ6_bitCount_0f7a4 (yJ6_bitCount_0f7a4, 1, (some FieldType.int), 0, 0, 0) [vi x] S μ (Ri S (bcF x) μ) := by
  refine Ct.of (by decide) rfl (by simp [vi, Value.category]) (Nat.le_of_ble_eq_true rfl) ?_
  refine v_iload_n aJ6_bitCount_0f7a4_0 rfl ?_
  refine v_iload_n aJ6_bitCount_0f7a4_1 rfl ?_
  refine v_iconst aJ6_bitCount_0f7a4_2 ?_
  refine v_iushr aJ6_bitCount_0f7a4_3 ?_
  refine v_ldcw kJ6_265 aJ6_bitCount_0f7a4_4 ?_
  refine v_iand aJ6_bitCount_0f7a4_7 ?_
  refine v_isub aJ6_bitCount_0f7a4_8 ?_
  refine v_istore_n aJ6_bitCount_0f7a4_9 (by decide) rfl ?_
  refine v_iload_n aJ6_bitCount_0f7a4_10 rfl ?_
  refine v_ldcw kJ6_266 aJ6_bitCount_0f7a4_11 ?_
  refine v_iand aJ6_bitCount_0f7a4_14 ?_
  refine v_iload_n aJ6_bitCount_0f7a4_15 rfl ?_
  refine v_iconst aJ6_bitCount_0f7a4_16 ?_
  refine v_iushr aJ6_bitCount_0f7a4_17 ?_
  refine v_ldcw kJ6_266 aJ6_bitCount_0f7a4_18 ?_
  refine v_iand aJ6_bitCount_0f7a4_21 ?_
  refine v_iadd aJ6_bitCount_0f7a4_22 ?_
  refine v_istore_n aJ6_bitCount_0f7a4_23 (by decide) rfl ?_
  refine v_iload_n aJ6_bitCount_0f7a4_24 rfl ?_
  refine v_iload_n aJ6_bitCount_0f7a4_25 rfl ?_
  refine v_iconst aJ6_bitCount_0f7a4_26 ?_
  refine v_iushr aJ6_bitCount_0f7a4_27 ?_
  refine v_iadd aJ6_bitCount_0f7a4_28 ?_
  refine v_ldcw kJ6_267 aJ6_bitCount_0f7a4_29 ?_
  refine v_iand aJ6_bitCount_0f7a4_32 ?_
  refine v_istore_n aJ6_bitCount_0f7a4_33 (by decide) rfl ?_
  refine v_iload_n aJ6_bitCount_0f7a4_34 rfl ?_
  refine v_iload_n aJ6_bitCount_0f7a4_35 rfl ?_
  refine v_bipush (by decide) aJ6_bitCount_0f7a4_36 ?_
  refine v_iushr aJ6_bitCount_0f7a4_38 ?_
  refine v_iadd aJ6_bitCount_0f7a4_39 ?_
  refine v_istore_n aJ6_bitCount_0f7a4_40 (by decide) rfl ?_
  refine v_iload_n aJ6_bitCount_0f7a4_41 rfl ?_
  refine v_iload_n aJ6_bitCount_0f7a4_42 rfl ?_
  refine v_bipush (by decide) aJ6_bitCount_0f7a4_43 ?_
  refine v_iushr aJ6_bitCount_0f7a4_45 ?_
  refine v_iadd aJ6_bitCount_0f7a4_46 ?_
  refine v_istore_n aJ6_bitCount_0f7a4_47 (by decide) rfl ?_
  refine v_iload_n aJ6_bitCount_0f7a4_48 rfl ?_
  refine v_bipush (by decide) aJ6_bitCount_0f7a4_49 ?_
  refine v_iand aJ6_bitCount_0f7a4_51 ?_
  refine v_ireturn aJ6_bitCount_0f7a4_52 rfl ⟨Nat.le_refl _, Nat.le_refl _⟩ ?_
  exact ⟨rfl, rfl, rfl⟩
set_option maxHeartbeats 4000000 in
set_option maxRecDepth 100000 in
theorem c_X4_isLeader {s : Int} (hR : RelS S b) (hn : 0 ≤ μ b 2 ∧ μ b 2 ≤ 6) (hm : Msk (μ b 3) (fun j => j < μ b 2 ∧ Ld R j)) (hs : 0 ≤ s ∧ s < μ b 2) : Ct l G cX4_isLeader (yX4_isLeader, 2, (some FieldType.boolean), 0, 0, 0) [.ref b, vi s] S μ (Ri S (b2i (Ld R s)) μ) := by
  have e : tb (μ b 3) s ↔ Ld R s := (hm.2 s hs.1 (by omega)).trans ⟨fun q => q.2, fun q => ⟨hs.2, q⟩⟩
  have hb := b2i_r (p := tb (μ b 3) s)
  refine Ct.of (by decide) rfl (by simp [vi, Value.category]) (Nat.le_of_ble_eq_true rfl) ?_
  refine v_aload_n aX4_isLeader_0 rfl ?_
  refine v_gi 3 rfl aX4_isLeader_1 fX4_61 hR.p rfl rfl ?_
  refine v_iload_n aX4_isLeader_4 rfl ?_
  refine v_ishr aX4_isLeader_5 ?_
  refine v_iconst aX4_isLeader_6 ?_
  refine v_iand aX4_isLeader_7 ?_
  refine v_top (bit01 (by omega)) ?_
  refine v_iconst aX4_isLeader_8 ?_
  refine v_icmp_ne 16 rfl aX4_isLeader_9 (by omega) (by omega) (fun c9 => ?_) (fun c9 => ?_)
  · --
    refine v_iconst aX4_isLeader_16 ?_
    refine v_zreturn aX4_isLeader_17 rfl ⟨Nat.le_refl _, Nat.le_refl _⟩ (by first | exact Or.inl rfl | exact Or.inr rfl | exact b2i_01 | omega) ?_
    first
      | exact ⟨by rw [b2i_t (e.mp (b2i_1.mp c9))], rfl, rfl⟩
      | exact ⟨by rw [b2i_f (fun q => c9 (b2i_t (e.mpr q)))], rfl, rfl⟩
  · --
    refine v_iconst aX4_isLeader_12 ?_
    refine v_goto 17 rfl aX4_isLeader_13 ?_
    refine v_zreturn aX4_isLeader_17 rfl ⟨Nat.le_refl _, Nat.le_refl _⟩ (by first | exact Or.inl rfl | exact Or.inr rfl | exact b2i_01 | omega) ?_
    first
      | exact ⟨by rw [b2i_t (e.mp (b2i_1.mp c9))], rfl, rfl⟩
      | exact ⟨by rw [b2i_f (fun q => c9 (b2i_t (e.mpr q)))], rfl, rfl⟩
set_option maxHeartbeats 4000000 in
set_option maxRecDepth 100000 in
theorem li_X4_heavierLeaders {s : Int} (hR : RelS S b) (hr : Rows (μ (b + 1)) R) (hn : 0 ≤ μ b 2 ∧ μ b 2 ≤ 6) (hm : Msk (μ b 3) (fun j => j < μ b 2 ∧ Ld R j)) (hs : 0 ≤ s ∧ s < 6) : ∀ (N : Nat) (i z : Int), (0 ≤ i ∧ i ≤ μ b 2) → μ b 2 - i < N → Msk z (fun j => j < i ∧ (Ld R j ∧ R j s ∧ ¬ R s j)) → V l G cX4_heavierLeaders (yX4_heavierLeaders, 4, (some FieldType.int), 3, 0, 0) (Re S (fun z μ' => μ' = μ ∧ Msk z (fun j => j < μ b 2 ∧ (Ld R j ∧ R j s ∧ ¬ R s j)))) (0, 0) S μ 4 [.ref b, vi s, vi z, vi i] [] := by
  intro N
  induction N with
  | zero => intros; omega
  | succ N ih =>
    intro i z h0 h1 hz
    refine v_iload_n aX4_heavierLeaders_4 rfl ?_
    refine v_aload_n aX4_heavierLeaders_5 rfl ?_
    refine v_gi 2 rfl aX4_heavierLeaders_6 fX4_24 hR.p rfl rfl ?_
    refine v_icmp_ge 41 rfl aX4_heavierLeaders_9 (by omega) (by omega) (fun c9 => ?_) (fun c9 => ?_)
    · --
      refine v_iload_n aX4_heavierLeaders_41 rfl ?_
      refine v_ireturn aX4_heavierLeaders_42 rfl ⟨Nat.le_refl _, Nat.le_refl _⟩ ?_
      exact ⟨z, rfl, rfl, rfl, hz.c (fun j j0 j6 => ⟨fun q => ⟨by omega, q.2⟩, fun q => ⟨by omega, q.2⟩⟩)⟩
    · --
      refine v_aload_n aX4_heavierLeaders_12 rfl ?_
      refine v_iload_n aX4_heavierLeaders_13 rfl ?_
      refine v_cVi (c_X4_isLeader hR hn hm (by omega)) aX4_heavierLeaders_14 mX4_isLeader vX4_isLeader lX4_74 hR.p rfl rfl rfl rfl rfl (Nat.le_of_ble_eq_true rfl) ⟨Nat.le_of_ble_eq_true rfl, Nat.le_of_ble_eq_true rfl⟩ (Nat.le_of_ble_eq_true rfl) ?_
      refine v_if_eq_b 35 rfl aX4_heavierLeaders_17 (fun c17 => ?_) (fun c17 => ?_)
      · --
        refine v_iinc aX4_heavierLeaders_35 rfl (by decide) rfl ?_
        refine v_goto 4 rfl aX4_heavierLeaders_38 ?_
        refine ih (i + 1) _ (by omega) (by omega) (hz.c (fun j j0 j6 => ?_))
        exact ⟨fun q => ⟨by omega, q.2⟩, fun q => (Int.lt_or_eq_of_le (Int.lt_add_one_iff.mp q.1)).elim (fun h => ⟨h, q.2⟩) (fun h => absurd q.2 (by rw [h]; exact (fun q => c17 q.1)))⟩
      · --
        refine v_aload_n aX4_heavierLeaders_20 rfl ?_
        refine v_iload_n aX4_heavierLeaders_21 rfl ?_
        refine v_iload_n aX4_heavierLeaders_22 rfl ?_
        refine v_cVi (c_X4_isHeavier hR hr (by omega) hs) aX4_heavierLeaders_23 mX4_isHeavier vX4_isHeavier lX4_77 hR.p rfl rfl rfl rfl rfl (Nat.le_of_ble_eq_true rfl) ⟨Nat.le_of_ble_eq_true rfl, Nat.le_of_ble_eq_true rfl⟩ (Nat.le_of_ble_eq_true rfl) ?_
        refine v_if_eq_b 35 rfl aX4_heavierLeaders_26 (fun c26 => ?_) (fun c26 => ?_)
        · --
          refine v_iinc aX4_heavierLeaders_35 rfl (by decide) rfl ?_
          refine v_goto 4 rfl aX4_heavierLeaders_38 ?_
          refine ih (i + 1) _ (by omega) (by omega) (hz.c (fun j j0 j6 => ?_))
          exact ⟨fun q => ⟨by omega, q.2⟩, fun q => (Int.lt_or_eq_of_le (Int.lt_add_one_iff.mp q.1)).elim (fun h => ⟨h, q.2⟩) (fun h => absurd q.2 (by rw [h]; exact (fun q => c26 q.2)))⟩
        · --
          refine v_iload_n aX4_heavierLeaders_29 rfl ?_
          refine v_iconst aX4_heavierLeaders_30 ?_
          refine v_iload_n aX4_heavierLeaders_31 rfl ?_
          refine v_ishl aX4_heavierLeaders_32 ?_
          refine v_ior aX4_heavierLeaders_33 ?_
          refine v_istore_n aX4_heavierLeaders_34 (by decide) rfl ?_
          refine v_iinc aX4_heavierLeaders_35 rfl (by decide) rfl ?_
          refine v_goto 4 rfl aX4_heavierLeaders_38 ?_
          refine ih (i + 1) _ (by omega) (by omega) ((hz.or (by omega)).c (fun j j0 j6 => ?_))
          exact ⟨fun q => q.elim (fun q => ⟨by omega, q.2⟩) (fun q => by rw [q]; exact ⟨by omega, c17, c26⟩), fun q => (Int.lt_or_eq_of_le (Int.lt_add_one_iff.mp q.1)).elim (fun h => Or.inl ⟨h, q.2⟩) Or.inr⟩
set_option maxHeartbeats 4000000 in
set_option maxRecDepth 100000 in
theorem c_X4_heavierLeaders {s : Int} (hR : RelS S b) (hr : Rows (μ (b + 1)) R) (hn : 0 ≤ μ b 2 ∧ μ b 2 ≤ 6) (hm : Msk (μ b 3) (fun j => j < μ b 2 ∧ Ld R j)) (hs : 0 ≤ s ∧ s < 6) : Ct l G cX4_heavierLeaders (yX4_heavierLeaders, 4, (some FieldType.int), 3, 0, 0) [.ref b, vi s] S μ (Re S (fun z μ' => μ' = μ ∧ Msk z (fun j => j < μ b 2 ∧ (Ld R j ∧ R j s ∧ ¬ R s j)))) := by
  refine Ct.of (by decide) rfl (by simp [vi, Value.category]) (Nat.le_of_ble_eq_true rfl) ?_
  refine v_iconst aX4_heavierLeaders_0 ?_
  refine v_istore_n aX4_heavierLeaders_1 (by decide) rfl ?_
  refine v_iconst aX4_heavierLeaders_2 ?_
  refine v_istore_n aX4_heavierLeaders_3 (by decide) rfl ?_
  exact li_X4_heavierLeaders hR hr hn hm hs 7 0 0 (by omega) (by omega) (Msk.zero.c (fun j j0 j6 => ⟨False.elim, fun q => absurd q.1 (by omega)⟩))
set_option maxHeartbeats 4000000 in
set_option maxRecDepth 100000 in
theorem c_X4_groupCount (hR : RelS S b) (hr : Rows (μ (b + 1)) R) (hn : 0 ≤ μ b 2 ∧ μ b 2 ≤ 6) (hm : Msk (μ b 3) (fun j => j < μ b 2 ∧ Ld R j)) : Ct l G cX4_groupCount (yX4_groupCount, 1, (some FieldType.int), 4, 0, 0) [.ref b] S μ (Ri S (cntP (Ld R) (μ b 2).toNat) μ) := by
  refine Ct.of (by decide) rfl (by simp [vi, Value.category]) (Nat.le_of_ble_eq_true rfl) ?_
  refine v_aload_n aX4_groupCount_0 rfl ?_
  refine v_gi 3 rfl aX4_groupCount_1 fX4_61 hR.p rfl rfl ?_
  refine v_cSi (c_J6_bitCount_0f7a4) aX4_groupCount_4 mJ6_bitCount_0f7a4 sJ6_bitCount_0f7a4 lX4_68 rfl rfl (Nat.le_of_ble_eq_true rfl) ⟨Nat.le_of_ble_eq_true rfl, Nat.le_of_ble_eq_true rfl⟩ (Nat.le_of_ble_eq_true rfl) ?_
  refine v_ireturn aX4_groupCount_7 rfl ⟨Nat.le_refl _, Nat.le_refl _⟩ ?_
  refine ⟨congrArg (fun z => some (vi z)) (hm.cnt.trans ?_), rfl, rfl⟩
  rw [← cntP_cut (p := Ld R) (a := (μ b 2).toNat) (b := 6) (by omega), show (((μ b 2).toNat : Nat) : Int) = μ b 2 by omega]
set_option maxHeartbeats 4000000 in
set_option maxRecDepth 100000 in
theorem c_X4_leastRank {s : Int} (hR : RelS S b) (hr : Rows (μ (b + 1)) R) (hn : 0 ≤ μ b 2 ∧ μ b 2 ≤ 6) (hm : Msk (μ b 3) (fun j => j < μ b 2 ∧ Ld R j)) (hs : 0 ≤ s ∧ s < 6) : Ct l G cX4_leastRank (yX4_leastRank, 2, (some FieldType.int), 4, 0, 0) [.ref b, vi s] S μ (Ri S (cntP (fun j => Ld R j ∧ R j s ∧ ¬ R s j) (μ b 2).toNat) μ) := by
  refine Ct.of (by decide) rfl (by simp [vi, Value.category]) (Nat.le_of_ble_eq_true rfl) ?_
  refine v_aload_n aX4_leastRank_0 rfl ?_
  refine v_iload_n aX4_leastRank_1 rfl ?_
  refine v_cVe (c_X4_heavierLeaders hR hr hn hm hs) aX4_leastRank_2 mX4_heavierLeaders vX4_heavierLeaders lX4_80 hR.p rfl rfl rfl rfl rfl (Nat.le_of_ble_eq_true rfl) ⟨Nat.le_of_ble_eq_true rfl, Nat.le_of_ble_eq_true rfl⟩ (Nat.le_of_ble_eq_true rfl) (fun z μ' hz => ?_)
  obtain ⟨rfl, hz⟩ := hz
  refine v_cSi (c_J6_bitCount_0f7a4) aX4_leastRank_5 mJ6_bitCount_0f7a4 sJ6_bitCount_0f7a4 lX4_68 rfl rfl (Nat.le_of_ble_eq_true rfl) ⟨Nat.le_of_ble_eq_true rfl, Nat.le_of_ble_eq_true rfl⟩ (Nat.le_of_ble_eq_true rfl) ?_
  refine v_ireturn aX4_leastRank_8 rfl ⟨Nat.le_refl _, Nat.le_refl _⟩ ?_
  refine ⟨congrArg (fun z => some (vi z)) (hz.cnt.trans ?_), rfl, rfl⟩
  rw [← cntP_cut (p := fun j => Ld R j ∧ R j s ∧ ¬ R s j) (a := (μ' b 2).toNat) (b := 6) (by omega), show (((μ' b 2).toNat : Nat) : Int) = μ' b 2 by omega]
set_option maxHeartbeats 4000000 in
set_option maxRecDepth 100000 in
theorem li_X4_greatestRank {s : Int} (hR : RelS S b) (hr : Rows (μ (b + 1)) R) (hn : 0 ≤ μ b 2 ∧ μ b 2 ≤ 6) (hm : Msk (μ b 3) (fun j => j < μ b 2 ∧ Ld R j)) (hs : 0 ≤ s ∧ s < 6) : ∀ (N : Nat) (i z : Int), (0 ≤ i ∧ i ≤ μ b 2) → μ b 2 - i < N → z = 1 + cntP (fun j => Ld R j ∧ R s j ∧ ¬ R j s) i.toNat → V l G cX4_greatestRank (yX4_greatestRank, 4, (some FieldType.int), 5, 0, 0) (Ri S (cntP (Ld R) (μ b 2).toNat - (1 + cntP (fun j => Ld R j ∧ R s j ∧ ¬ R j s) (μ b 2).toNat)) μ) (0, 0) S μ 4 [.ref b, vi s, vi z, vi i] [] := by
  intro N
  induction N with
  | zero => intros; omega
  | succ N ih =>
    intro i z h0 h1 hz
    have hq := cntP_nn (p := (fun j => Ld R j ∧ R s j ∧ ¬ R j s)) i.toNat
    refine v_iload_n aX4_greatestRank_4 rfl ?_
    refine v_aload_n aX4_greatestRank_5 rfl ?_
    refine v_gi 2 rfl aX4_greatestRank_6 fX4_24 hR.p rfl rfl ?_
    refine v_icmp_ge 38 rfl aX4_greatestRank_9 (by omega) (by omega) (fun c9 => ?_) (fun c9 => ?_)
    · --
      refine v_aload_n aX4_greatestRank_38 rfl ?_
      refine v_cVi (c_X4_groupCount hR hr hn hm) aX4_greatestRank_39 mX4_groupCount vX4_groupCount lX4_83 hR.p rfl rfl rfl rfl rfl (Nat.le_of_ble_eq_true rfl) ⟨Nat.le_of_ble_eq_true rfl, Nat.le_of_ble_eq_true rfl⟩ (Nat.le_of_ble_eq_true rfl) ?_
      refine v_iload_n aX4_greatestRank_42 rfl ?_
      refine v_isub aX4_greatestRank_43 ?_
      refine v_ireturn aX4_greatestRank_44 rfl ⟨Nat.le_refl _, Nat.le_refl _⟩ ?_
      obtain rfl : i = μ b 2 := by omega
      exact ⟨by rw [hz], rfl, rfl⟩
    · --
      refine v_aload_n aX4_greatestRank_12 rfl ?_
      refine v_iload_n aX4_greatestRank_13 rfl ?_
      refine v_cVi (c_X4_isLeader hR hn hm (by omega)) aX4_greatestRank_14 mX4_isLeader vX4_isLeader lX4_74 hR.p rfl rfl rfl rfl rfl (Nat.le_of_ble_eq_true rfl) ⟨Nat.le_of_ble_eq_true rfl, Nat.le_of_ble_eq_true rfl⟩ (Nat.le_of_ble_eq_true rfl) ?_
      refine v_if_eq_b 32 rfl aX4_greatestRank_17 (fun c17 => ?_) (fun c17 => ?_)
      · --
        refine v_iinc aX4_greatestRank_32 rfl (by decide) rfl ?_
        refine v_goto 4 rfl aX4_greatestRank_35 ?_
        refine ih (i + 1) _ (by omega) (by omega) ?_
        rw [cntP_s h0.1, b2i_f (fun q => c17 q.1)]
        omega
      · --
        refine v_aload_n aX4_greatestRank_20 rfl ?_
        refine v_iload_n aX4_greatestRank_21 rfl ?_
        refine v_iload_n aX4_greatestRank_22 rfl ?_
        refine v_cVi (c_X4_isHeavier hR hr hs (by omega)) aX4_greatestRank_23 mX4_isHeavier vX4_isHeavier lX4_77 hR.p rfl rfl rfl rfl rfl (Nat.le_of_ble_eq_true rfl) ⟨Nat.le_of_ble_eq_true rfl, Nat.le_of_ble_eq_true rfl⟩ (Nat.le_of_ble_eq_true rfl) ?_
        refine v_if_eq_b 32 rfl aX4_greatestRank_26 (fun c26 => ?_) (fun c26 => ?_)
        · --
          refine v_iinc aX4_greatestRank_32 rfl (by decide) rfl ?_
          refine v_goto 4 rfl aX4_greatestRank_35 ?_
          refine ih (i + 1) _ (by omega) (by omega) ?_
          rw [cntP_s h0.1, b2i_f (fun q => c26 q.2)]
          omega
        · --
          refine v_iinc aX4_greatestRank_29 rfl (by decide) rfl ?_
          refine v_iinc aX4_greatestRank_32 rfl (by decide) rfl ?_
          refine v_goto 4 rfl aX4_greatestRank_35 ?_
          refine ih (i + 1) _ (by omega) (by omega) ?_
          rw [cntP_s h0.1, b2i_t ⟨c17, c26⟩]
          omega
set_option maxHeartbeats 4000000 in
set_option maxRecDepth 100000 in
theorem c_X4_greatestRank {s : Int} (hR : RelS S b) (hr : Rows (μ (b + 1)) R) (hn : 0 ≤ μ b 2 ∧ μ b 2 ≤ 6) (hm : Msk (μ b 3) (fun j => j < μ b 2 ∧ Ld R j)) (hs : 0 ≤ s ∧ s < 6) : Ct l G cX4_greatestRank (yX4_greatestRank, 4, (some FieldType.int), 5, 0, 0) [.ref b, vi s] S μ (Ri S (cntP (Ld R) (μ b 2).toNat - (1 + cntP (fun j => Ld R j ∧ R s j ∧ ¬ R j s) (μ b 2).toNat)) μ) := by
  refine Ct.of (by decide) rfl (by simp [vi, Value.category]) (Nat.le_of_ble_eq_true rfl) ?_
  refine v_iconst aX4_greatestRank_0 ?_
  refine v_istore_n aX4_greatestRank_1 (by decide) rfl ?_
  refine v_iconst aX4_greatestRank_2 ?_
  refine v_istore_n aX4_greatestRank_3 (by decide) rfl ?_
  exact li_X4_greatestRank hR hr hn hm hs 7 0 1 (by omega) (by omega) rfl
set_option maxHeartbeats 4000000 in
set_option maxRecDepth 100000 in
theorem li_X4_groupOf {s : Int} (hR : RelS S b) (hr : Rows (μ (b + 1)) R) (hn : 0 ≤ μ b 2 ∧ μ b 2 ≤ 6) (hm : Msk (μ b 3) (fun j => j < μ b 2 ∧ Ld R j)) (hs : 0 ≤ s ∧ s < μ b 2) (hss : R s s) : ∀ (N : Nat) (i z : Int), (0 ≤ i ∧ i ≤ s + 1) → s + 1 - i < N → (∀ p : Int, 0 ≤ p → p < i → ¬ (R s p ∧ R p s)) → z = cntP (Ld R) i.toNat → V l G cX4_groupOf (yX4_groupOf, 4, (some FieldType.int), 3, 0, 0) (Re S (fun z μ' => μ' = μ ∧ ∃ o : Int, 0 ≤ o ∧ o ≤ s ∧ (R s o ∧ R o s) ∧ (∀ p : Int, 0 ≤ p → p < o → ¬ (R s p ∧ R p s)) ∧ z = cntP (Ld R) o.toNat)) (0, 0) S μ 4 [.ref b, vi s, vi z, vi i] [] := by
  intro N
  induction N with
  | zero => intros; omega
  | succ N ih =>
    intro i z h0 h1 hp hz
    have hq := cntP_nn (p := Ld R) i.toNat
    have hi : i ≤ s := by
      rcases Int.lt_or_le s i with q | q
      · exact absurd ⟨hss, hss⟩ (hp s hs.1 q)
      · exact q
    refine v_iload_n aX4_groupOf_4 rfl ?_
    refine v_aload_n aX4_groupOf_5 rfl ?_
    refine v_gi 2 rfl aX4_groupOf_6 fX4_24 hR.p rfl rfl ?_
    refine v_icmp_ge 40 rfl aX4_groupOf_9 (by omega) (by omega) (fun c9 => ?_) (fun c9 => ?_)
    · omega
    · --
      refine v_aload_n aX4_groupOf_12 rfl ?_
      refine v_iload_n aX4_groupOf_13 rfl ?_
      refine v_iload_n aX4_groupOf_14 rfl ?_
      refine v_cVi (c_X4_isAlike hR hr (by omega) (by omega)) aX4_groupOf_15 mX4_isAlike vX4_isAlike lX4_54 hR.p rfl rfl rfl rfl rfl (Nat.le_of_ble_eq_true rfl) ⟨Nat.le_of_ble_eq_true rfl, Nat.le_of_ble_eq_true rfl⟩ (Nat.le_of_ble_eq_true rfl) ?_
      refine v_if_eq_b 23 rfl aX4_groupOf_18 (fun c18 => ?_) (fun c18 => ?_)
      · --
        refine v_aload_n aX4_groupOf_23 rfl ?_
        refine v_iload_n aX4_groupOf_24 rfl ?_
        refine v_cVi (c_X4_isLeader hR hn hm (by omega)) aX4_groupOf_25 mX4_isLeader vX4_isLeader lX4_74 hR.p rfl rfl rfl rfl rfl (Nat.le_of_ble_eq_true rfl) ⟨Nat.le_of_ble_eq_true rfl, Nat.le_of_ble_eq_true rfl⟩ (Nat.le_of_ble_eq_true rfl) ?_
        refine v_if_eq_b 34 rfl aX4_groupOf_28 (fun c28 => ?_) (fun c28 => ?_)
        · --
          refine v_iinc aX4_groupOf_34 rfl (by decide) rfl ?_
          refine v_goto 4 rfl aX4_groupOf_37 ?_
          refine ih (i + 1) _ (by omega) (by omega) (fun p p0 p1 => ?_) ?_
          · by_cases e : p = i
            · rw [e]; exact c18
            · exact hp p p0 (by omega)
          · rw [cntP_s h0.1, b2i_f c28]
            omega
        · --
          refine v_iinc aX4_groupOf_31 rfl (by decide) rfl ?_
          refine v_iinc aX4_groupOf_34 rfl (by decide) rfl ?_
          refine v_goto 4 rfl aX4_groupOf_37 ?_
          refine ih (i + 1) _ (by omega) (by omega) (fun p p0 p1 => ?_) ?_
          · by_cases e : p = i
            · rw [e]; exact c18
            · exact hp p p0 (by omega)
          · rw [cntP_s h0.1, b2i_t c28]
            omega
      · --
        refine v_iload_n aX4_groupOf_21 rfl ?_
        refine v_ireturn aX4_groupOf_22 rfl ⟨Nat.le_refl _, Nat.le_refl _⟩ ?_
        exact ⟨z, rfl, rfl, rfl, i, h0.1, hi, c18, hp, hz⟩
set_option maxHeartbeats 4000000 in
set_option maxRecDepth 100000 in
theorem c_X4_groupOf {s : Int} (hR : RelS S b) (hr : Rows (μ (b + 1)) R) (hn : 0 ≤ μ b 2 ∧ μ b 2 ≤ 6) (hm : Msk (μ b 3) (fun j => j < μ b 2 ∧ Ld R j)) (hs : 0 ≤ s ∧ s < μ b 2) (hss : R s s) : Ct l G cX4_groupOf (yX4_groupOf, 4, (some FieldType.int), 3, 0, 0) [.ref b, vi s] S μ (Re S (fun z μ' => μ' = μ ∧ ∃ o : Int, 0 ≤ o ∧ o ≤ s ∧ (R s o ∧ R o s) ∧ (∀ p : Int, 0 ≤ p → p < o → ¬ (R s p ∧ R p s)) ∧ z = cntP (Ld R) o.toNat)) := by
  refine Ct.of (by decide) rfl (by simp [vi, Value.category]) (Nat.le_of_ble_eq_true rfl) ?_
  refine v_iconst aX4_groupOf_0 ?_
  refine v_istore_n aX4_groupOf_1 (by decide) rfl ?_
  refine v_iconst aX4_groupOf_2 ?_
  refine v_istore_n aX4_groupOf_3 (by decide) rfl ?_
  exact li_X4_groupOf hR hr hn hm hs hss 7 0 0 (by omega) (by omega) (fun p p0 p1 => absurd p0 (by omega)) rfl
set_option maxHeartbeats 4000000 in
set_option maxRecDepth 100000 in
theorem li_X4_leaderOf {g : Int} (hR : RelS S b) (hr : Rows (μ (b + 1)) R) (hn : 0 ≤ μ b 2 ∧ μ b 2 ≤ 6) (hm : Msk (μ b 3) (fun j => j < μ b 2 ∧ Ld R j)) (hg : 0 ≤ g ∧ g < cntP (Ld R) (μ b 2).toNat) : ∀ (N : Nat) (i z : Int), (0 ≤ i ∧ i ≤ μ b 2) → μ b 2 - i < N → z = g - cntP (Ld R) i.toNat → cntP (Ld R) i.toNat ≤ g → V l G cX4_leaderOf (yX4_leaderOf, 4, (some FieldType.int), 3, 0, 0) (Re S (fun z μ' => μ' = μ ∧ (0 ≤ z ∧ z < μ b 2) ∧ Ld R z ∧ cntP (Ld R) z.toNat = g)) (0, 0) S μ 4 [.ref b, vi g, vi z, vi i] [] := by
  intro N
  induction N with
  | zero => intros; omega
  | succ N ih =>
    intro i z h0 h1 hz hzz
    have hq := cntP_nn (p := Ld R) i.toNat
    have hq2 := cntP_nn (p := Ld R) (μ b 2).toNat
    refine v_iload_n aX4_leaderOf_4 rfl ?_
    refine v_aload_n aX4_leaderOf_5 rfl ?_
    refine v_gi 2 rfl aX4_leaderOf_6 fX4_24 hR.p rfl rfl ?_
    refine v_icmp_ge 35 rfl aX4_leaderOf_9 (by omega) (by omega) (fun c9 => ?_) (fun c9 => ?_)
    · exact absurd hg.2 (by rw [show μ b 2 = i by omega]; omega)
    · --
      refine v_aload_n aX4_leaderOf_12 rfl ?_
      refine v_iload_n aX4_leaderOf_13 rfl ?_
      refine v_cVi (c_X4_isLeader hR hn hm (by omega)) aX4_leaderOf_14 mX4_isLeader vX4_isLeader lX4_74 hR.p rfl rfl rfl rfl rfl (Nat.le_of_ble_eq_true rfl) ⟨Nat.le_of_ble_eq_true rfl, Nat.le_of_ble_eq_true rfl⟩ (Nat.le_of_ble_eq_true rfl) ?_
      refine v_if_eq_b 29 rfl aX4_leaderOf_17 (fun c17 => ?_) (fun c17 => ?_)
      · --
        refine v_iinc aX4_leaderOf_29 rfl (by decide) rfl ?_
        refine v_goto 4 rfl aX4_leaderOf_32 ?_
        refine ih (i + 1) _ (by omega) (by omega) ?_ ?_ <;> rw [cntP_s h0.1, b2i_f c17] <;> omega
      · --
        refine v_iload_n aX4_leaderOf_20 rfl ?_
        refine v_if_ne 26 rfl aX4_leaderOf_21 (by omega) (fun c21 => ?_) (fun c21 => ?_)
        · --
          refine v_iinc aX4_leaderOf_26 rfl (by decide) rfl ?_
          refine v_iinc aX4_leaderOf_29 rfl (by decide) rfl ?_
          refine v_goto 4 rfl aX4_leaderOf_32 ?_
          refine ih (i + 1) _ (by omega) (by omega) ?_ ?_ <;> rw [cntP_s h0.1, b2i_t c17] <;> omega
        · --
          refine v_iload_n aX4_leaderOf_24 rfl ?_
          refine v_ireturn aX4_leaderOf_25 rfl ⟨Nat.le_refl _, Nat.le_refl _⟩ ?_
          exact ⟨i, rfl, rfl, rfl, ⟨h0.1, by omega⟩, c17, by omega⟩
set_option maxHeartbeats 4000000 in
set_option maxRecDepth 100000 in
theorem c_X4_leaderOf {g : Int} (hR : RelS S b) (hr : Rows (μ (b + 1)) R) (hn : 0 ≤ μ b 2 ∧ μ b 2 ≤ 6) (hm : Msk (μ b 3) (fun j => j < μ b 2 ∧ Ld R j)) (hg : 0 ≤ g ∧ g < cntP (Ld R) (μ b 2).toNat) : Ct l G cX4_leaderOf (yX4_leaderOf, 4, (some FieldType.int), 3, 0, 0) [.ref b, vi g] S μ (Re S (fun z μ' => μ' = μ ∧ (0 ≤ z ∧ z < μ b 2) ∧ Ld R z ∧ cntP (Ld R) z.toNat = g)) := by
  refine Ct.of (by decide) rfl (by simp [vi, Value.category]) (Nat.le_of_ble_eq_true rfl) ?_
  refine v_iload_n aX4_leaderOf_0 rfl ?_
  refine v_istore_n aX4_leaderOf_1 (by decide) rfl ?_
  refine v_iconst aX4_leaderOf_2 ?_
  refine v_istore_n aX4_leaderOf_3 (by decide) rfl ?_
  exact li_X4_leaderOf hR hr hn hm hg 7 0 g (by omega) (by omega) (by show g = g - 0; omega) hg.1
theorem agn_none {R : Rl} {s o : Int} : agn R s o = -6 ↔ ¬ R s o ∧ ¬ R o s := by
  unfold agn
  constructor
  · intro h
    by_cases q1 : R s o
    · by_cases q2 : R o s
      · rw [if_pos (b2i_t ⟨q1, q2⟩)] at h; exact absurd h (by decide)
      · rw [if_neg (fun q => q2 (b2i_1.mp q).2), if_pos (b2i_t q1)] at h; exact absurd h (by decide)
    · refine ⟨q1, fun q2 => ?_⟩
      rw [if_neg (fun q => q1 (b2i_1.mp q).1), if_neg (fun q => q1 (b2i_1.mp q)), if_pos (b2i_t q2)] at h
      exact absurd h (by decide)
  · rintro ⟨q1, q2⟩
    rw [if_neg (fun q => q1 (b2i_1.mp q).1), if_neg (fun q => q1 (b2i_1.mp q)), if_neg (fun q => q2 (b2i_1.mp q))]
theorem agn_r {R : Rl} {s o : Int} : -6 ≤ agn R s o ∧ agn R s o ≤ 2 := by
  unfold agn
  split
  · decide
  · split
    · decide
    · split <;> decide
set_option maxHeartbeats 4000000 in
set_option maxRecDepth 100000 in
theorem li_X4_openPairs {i C : Int} (hR : RelS S b) (hr : Rows (μ (b + 1)) R) (hn : 0 ≤ μ b 2 ∧ μ b 2 ≤ 6) (hi : 0 ≤ i ∧ i < μ b 2) (hC : 0 ≤ C ∧ C ≤ 36) (hh : ∀ (z : Int) (L : List Value), z = C + sumN (fun o => b2i (i < o ∧ ¬ R i o ∧ ¬ R o i)) (μ b 2).toNat → V l G cX4_openPairs (yX4_openPairs, 4, (some FieldType.int), 3, 0, 0) (Ri S (sumN (fun i => sumN (fun o => b2i (i < o ∧ ¬ R i o ∧ ¬ R o i)) (μ b 2).toNat) (μ b 2).toNat) μ) (0, 0) S μ 44 ([.ref b, vi z, vi i] ++ L) []) : ∀ (N : Nat) (j z : Int), (i + 1 ≤ j ∧ j ≤ μ b 2) → μ b 2 - j < N → z = C + sumN (fun o => b2i (i < o ∧ ¬ R i o ∧ ¬ R o i)) j.toNat → V l G cX4_openPairs (yX4_openPairs, 4, (some FieldType.int), 3, 0, 0) (Ri S (sumN (fun i => sumN (fun o => b2i (i < o ∧ ¬ R i o ∧ ¬ R o i)) (μ b 2).toNat) (μ b 2).toNat) μ) (0, 0) S μ 16 [.ref b, vi z, vi i, vi j] [] := by
  intro N
  induction N with
  | zero => intros; omega
  | succ N ih =>
    intro j z h0 h1 hz
    have hq : 0 ≤ sumN (fun o => b2i (i < o ∧ ¬ R i o ∧ ¬ R o i)) j.toNat ∧ sumN (fun o => b2i (i < o ∧ ¬ R i o ∧ ¬ R o i)) j.toNat ≤ j.toNat := cntP_nn (p := fun o => i < o ∧ ¬ R i o ∧ ¬ R o i) j.toNat
    have ha := agn_r (R := R) (s := i) (o := j)
    refine v_iload_n aX4_openPairs_16 rfl ?_
    refine v_aload_n aX4_openPairs_17 rfl ?_
    refine v_gi 2 rfl aX4_openPairs_18 fX4_24 hR.p rfl rfl ?_
    refine v_icmp_ge 44 rfl aX4_openPairs_21 (by omega) (by omega) (fun c21 => ?_) (fun c21 => ?_)
    · --
      exact hh z [vi j] (by rw [hz, show μ b 2 = j by omega])
    · --
      refine v_aload_n aX4_openPairs_24 rfl ?_
      refine v_iload_n aX4_openPairs_25 rfl ?_
      refine v_iload_n aX4_openPairs_26 rfl ?_
      refine v_cVi (c_X4_against hR hr (by omega) (by omega)) aX4_openPairs_27 mX4_against vX4_against lX4_57 hR.p rfl rfl rfl rfl rfl (Nat.le_of_ble_eq_true rfl) ⟨Nat.le_of_ble_eq_true rfl, Nat.le_of_ble_eq_true rfl⟩ (Nat.le_of_ble_eq_true rfl) ?_
      refine v_bipush (by decide) aX4_openPairs_30 ?_
      refine v_icmp_ne 38 rfl aX4_openPairs_32 (by omega) (by omega) (fun c32 => ?_) (fun c32 => ?_)
      · --
        refine v_iinc aX4_openPairs_38 rfl (by decide) rfl ?_
        refine v_goto 16 rfl aX4_openPairs_41 ?_
        refine ih (j + 1) _ (by omega) (by omega) ?_
        rw [sumN_s (by omega), b2i_f (fun q => c32 (agn_none.mpr q.2))]
        omega
      · --
        refine v_iinc aX4_openPairs_35 rfl (by decide) rfl ?_
        refine v_iinc aX4_openPairs_38 rfl (by decide) rfl ?_
        refine v_goto 16 rfl aX4_openPairs_41 ?_
        refine ih (j + 1) _ (by omega) (by omega) ?_
        rw [sumN_s (by omega), b2i_t ⟨by omega, agn_none.mp c32⟩]
        omega
set_option maxHeartbeats 4000000 in
set_option maxRecDepth 100000 in
theorem lo_X4_openPairs (hR : RelS S b) (hr : Rows (μ (b + 1)) R) (hn : 0 ≤ μ b 2 ∧ μ b 2 ≤ 6) : ∀ (N : Nat) (i z : Int) (L : List Value), (0 ≤ i ∧ i ≤ μ b 2) → μ b 2 - i < N → z = sumN (fun i => sumN (fun o => b2i (i < o ∧ ¬ R i o ∧ ¬ R o i)) (μ b 2).toNat) i.toNat → (0 ≤ z ∧ z ≤ 6 * i) → V l G cX4_openPairs (yX4_openPairs, 4, (some FieldType.int), 3, 0, 0) (Ri S (sumN (fun i => sumN (fun o => b2i (i < o ∧ ¬ R i o ∧ ¬ R o i)) (μ b 2).toNat) (μ b 2).toNat) μ) (0, 0) S μ 4 ([.ref b, vi z, vi i] ++ L) [] := by
  intro N
  induction N with
  | zero => intros; omega
  | succ N ih =>
    intro i z L h0 h1 hz hz2
    refine v_take 3 rfl ?_
    show V _ _ _ _ _ _ _ _ _ [.ref b, vi z, vi i] _
    refine v_iload_n aX4_openPairs_4 rfl ?_
    refine v_aload_n aX4_openPairs_5 rfl ?_
    refine v_gi 2 rfl aX4_openPairs_6 fX4_24 hR.p rfl rfl ?_
    refine v_icmp_ge 50 rfl aX4_openPairs_9 (by omega) (by omega) (fun c9 => ?_) (fun c9 => ?_)
    · --
      refine v_iload_n aX4_openPairs_50 rfl ?_
      refine v_ireturn aX4_openPairs_51 rfl ⟨Nat.le_refl _, Nat.le_refl _⟩ ?_
      obtain rfl : i = μ b 2 := by omega
      exact ⟨by rw [hz], rfl, rfl⟩
    · --
      refine v_iload_n aX4_openPairs_12 rfl ?_
      refine v_iconst aX4_openPairs_13 ?_
      refine v_iadd aX4_openPairs_14 ?_
      refine v_istore_n aX4_openPairs_15 (by decide) rfl ?_
      have hq : 0 ≤ sumN (fun o => b2i (i < o ∧ ¬ R i o ∧ ¬ R o i)) (μ b 2).toNat ∧ sumN (fun o => b2i (i < o ∧ ¬ R i o ∧ ¬ R o i)) (μ b 2).toNat ≤ (μ b 2).toNat := cntP_nn (p := fun o => i < o ∧ ¬ R i o ∧ ¬ R o i) _
      refine li_X4_openPairs (i := i) (C := z) hR hr hn (by omega) (by omega) (fun z2 L2 hz2 => ?_) 7 (i + 1) z (by omega) (by omega) ?_
      · refine v_take 3 rfl ?_
        show V _ _ _ _ _ _ _ _ _ [.ref b, vi z2, vi i] _
        refine v_iinc aX4_openPairs_44 rfl (by decide) rfl ?_
        refine v_goto 4 rfl aX4_openPairs_47 ?_
        refine ih (i + 1) z2 [] (by omega) (by omega) ?_ (by omega)
        rw [sumN_s h0.1, hz2, hz]
      · rw [sumN_0 _ (fun o o0 o1 => b2i_f (fun q => by omega))]; omega
set_option maxHeartbeats 4000000 in
set_option maxRecDepth 100000 in
theorem c_X4_openPairs (hR : RelS S b) (hr : Rows (μ (b + 1)) R) (hn : 0 ≤ μ b 2 ∧ μ b 2 ≤ 6) : Ct l G cX4_openPairs (yX4_openPairs, 4, (some FieldType.int), 3, 0, 0) [.ref b] S μ (Ri S (sumN (fun i => sumN (fun o => b2i (i < o ∧ ¬ R i o ∧ ¬ R o i)) (μ b 2).toNat) (μ b 2).toNat) μ) := by
  refine Ct.of (by decide) rfl (by simp [vi, Value.category]) (Nat.le_of_ble_eq_true rfl) ?_
  refine v_iconst aX4_openPairs_0 ?_
  refine v_istore_n aX4_openPairs_1 (by decide) rfl ?_
  refine v_iconst aX4_openPairs_2 ?_
  refine v_istore_n aX4_openPairs_3 (by decide) rfl ?_
  exact lo_X4_openPairs hR hr hn 7 0 0 [] (by omega) (by omega) rfl (by omega)
end RELD
