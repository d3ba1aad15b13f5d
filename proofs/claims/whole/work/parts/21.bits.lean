def bt (x : Int32) (i : Nat) : Bool := x.toBitVec.getLsbD i
theorem b_ext {x y : Int32} (h : ∀ i, i < 32 → bt x i = bt y i) : x = y := Int32.toBitVec_inj.mp (BitVec.eq_of_getLsbD_eq (fun i hi => h i hi))
theorem b_or (x y : Int32) (i : Nat) : bt (x ||| y) i = (bt x i || bt y i) := by unfold bt; rw [Int32.toBitVec_or, BitVec.getLsbD_or]
theorem b_and (x y : Int32) (i : Nat) : bt (x &&& y) i = (bt x i && bt y i) := by unfold bt; rw [Int32.toBitVec_and, BitVec.getLsbD_and]
theorem b_xor (x y : Int32) (i : Nat) : bt (x ^^^ y) i = (bt x i ^^ bt y i) := by unfold bt; rw [Int32.toBitVec_xor, BitVec.getLsbD_xor]
theorem b_big {x : Int32} {i : Nat} (h : 32 ≤ i) : bt x i = false := BitVec.getLsbD_of_ge _ _ h
theorem b_255 (i : Nat) : bt 255 i = decide (i < 8) := by
  rcases Nat.lt_or_ge i 32 with h | h
  · exact (by decide +kernel : ∀ i, i < 32 → bt 255 i = decide (i < 8)) i h
  · rw [b_big h, decide_eq_false (by omega)]
theorem b_65535 (i : Nat) : bt 65535 i = decide (i < 16) := by
  rcases Nat.lt_or_ge i 32 with h | h
  · exact (by decide +kernel : ∀ i, i < 32 → bt 65535 i = decide (i < 16)) i h
  · rw [b_big h, decide_eq_false (by omega)]
theorem b_m1 : ∀ i, i < 32 → bt (-1) i = true := by decide +kernel
theorem b_0 (i : Nat) : bt 0 i = false := BitVec.getLsbD_zero
theorem s_l : ∀ n, n < 32 → ((nI n &&& 31).toBitVec.smod 32).toNat = n := by decide +kernel
theorem s_u : ∀ n, n < 32 → (((nI n).toUInt32 &&& Int32.toUInt32 31).toBitVec % 32).toNat = n := by decide +kernel
theorem b_shl (n : Nat) (hn : n < 32) (x : Int32) {i : Nat} (hi : i < 32) : bt (x <<< (nI n &&& 31)) i = (decide (n ≤ i) && bt x (i - n)) := by
  unfold bt
  rw [Int32.toBitVec_shiftLeft]
  show (x.toBitVec <<< ((nI n &&& 31).toBitVec.smod 32).toNat).getLsbD i = _
  rw [s_l n hn, BitVec.getLsbD_shiftLeft]
  rcases Nat.lt_or_ge i n with h | h
  · simp [h, Nat.not_le.mpr h]
  · simp [hi, h, Nat.not_lt.mpr h]
theorem b_ushr (n : Nat) (hn : n < 32) (x : Int32) (i : Nat) : bt ((x.toUInt32 >>> ((nI n).toUInt32 &&& Int32.toUInt32 31)).toInt32) i = bt x (n + i) := by
  show (x.toUInt32 >>> ((nI n).toUInt32 &&& Int32.toUInt32 31)).toBitVec.getLsbD i = x.toUInt32.toBitVec.getLsbD (n + i)
  rw [UInt32.toBitVec_shiftRight]
  show (x.toUInt32.toBitVec >>> (((nI n).toUInt32 &&& Int32.toUInt32 31).toBitVec % 32).toNat).getLsbD i = _
  rw [s_u n hn, BitVec.getLsbD_ushiftRight]
theorem b_sshr (n : Nat) (hn : n < 32) (x : Int32) {i : Nat} (hi : i < 32) : bt (x >>> (nI n &&& 31)) i = if n + i < 32 then bt x (n + i) else bt x 31 := by
  unfold bt
  rw [Int32.toBitVec_shiftRight]
  show (x.toBitVec.sshiftRight ((nI n &&& 31).toBitVec.smod 32).toNat).getLsbD i = _
  rw [s_l n hn, BitVec.getLsbD_sshiftRight, BitVec.msb_eq_getLsbD_last]
  simp [hi]
/-! bits of the integers -/
theorem ofInt_nat (n : Nat) : Int32.ofInt (n : Int) = nI n := by
  apply Int32.toBitVec_inj.mp
  simp [nI]
theorem ofInt_nn {z : Int} (h : 0 ≤ z) : Int32.ofInt z = nI z.toNat := by
  rw [← ofInt_nat, show ((z.toNat : Nat) : Int) = z by omega]
theorem bt_nat (n j : Nat) : bt (nI n) j = (decide (j < 32) && n.testBit j) := by
  unfold bt
  rw [show (nI n).toBitVec = BitVec.ofNat 32 n from rfl, BitVec.getLsbD_ofNat]
def tb (z i : Int) : Prop := bt (Int32.ofInt z) i.toNat = true
theorem tb_or {a b i : Int} : tb (iOr a b) i ↔ tb a i ∨ tb b i := by
  unfold tb iOr
  rw [Int32.ofInt_toInt, b_or]
  simp
theorem tb_and {a b i : Int} : tb (iAnd a b) i ↔ tb a i ∧ tb b i := by
  unfold tb iAnd
  rw [Int32.ofInt_toInt, b_and]
  simp
theorem tb_not {a i : Int} (hi : 0 ≤ i ∧ i < 32) : tb (iXor a (-1)) i ↔ ¬ tb a i := by
  unfold tb iXor
  rw [Int32.ofInt_toInt, b_xor, show Int32.ofInt (-1) = -1 from rfl, b_m1 _ (by omega)]
  cases bt (Int32.ofInt a) i.toNat <;> simp
theorem bt_one : ∀ k, k < 32 → bt 1 k = decide (k = 0) := by decide +kernel
theorem tb_shl1 {i j : Int} (hi : 0 ≤ i ∧ i < 32) (hj : 0 ≤ j ∧ j < 32) : tb (iShl 1 i) j ↔ j = i := by
  unfold tb iShl
  rw [Int32.ofInt_toInt, ofInt_nn hi.1, show Int32.ofInt 1 = 1 from rfl, b_shl _ (by omega) _ (by omega)]
  by_cases h : i.toNat ≤ j.toNat
  · rw [bt_one _ (by omega)]
    simp [h]
    omega
  · simp [h]
    omega
theorem tb_shr {x i j : Int} (hi : 0 ≤ i) (hj : 0 ≤ j) (h : i + j < 32) : tb (iShr x i) j ↔ tb x (i + j) := by
  unfold tb iShr
  rw [Int32.ofInt_toInt, ofInt_nn hi, b_sshr _ (by omega) _ (by omega), if_pos (by omega), show (i + j).toNat = i.toNat + j.toNat by omega]
theorem i32_ext {X Y : Int32} (h : ∀ j, j < 32 → bt X j = bt Y j) : X.toInt = Y.toInt := congrArg Int32.toInt (b_ext h)
theorem bit01 {x i : Int} (hi : 0 ≤ i ∧ i < 32) : iAnd (iShr x i) 1 = b2i (tb x i) := by
  have key : ∀ b : Bool, bt (Int32.ofInt x) i.toNat = b → (Int32.ofInt (iShr x i) &&& Int32.ofInt 1) = if b then 1 else 0 := by
    intro b hb
    apply b_ext
    intro j hj
    rw [b_and, show Int32.ofInt 1 = 1 from rfl, bt_one j hj]
    by_cases e : j = 0
    · subst e
      have h1 : bt (Int32.ofInt (iShr x i)) 0 = b := by
        unfold iShr
        rw [Int32.ofInt_toInt, ofInt_nn hi.1, b_sshr _ (by omega) _ (by omega), if_pos (by omega)]
        exact hb
      rw [h1]
      cases b <;> simp [bt_one 0 (by omega), b_0]
    · cases b <;> simp [e, bt_one j hj, b_0]
  unfold iAnd
  cases hb : bt (Int32.ofInt x) i.toNat with
  | true => rw [key true hb, b2i_t (show tb x i from hb)]; rfl
  | false => rw [key false hb, b2i_f (fun h => by unfold tb at h; rw [hb] at h; cases h)]; rfl
theorem tb_nn {z j : Int} (h : 0 ≤ z) : tb z j ↔ j.toNat < 32 ∧ z.toNat.testBit j.toNat = true := by
  unfold tb
  rw [ofInt_nn h, bt_nat]
  simp
/-- a number below 2 ^ k has no bit from k on -/
theorem tb_hi {z j : Int} (k : Nat) (h0 : 0 ≤ z) (h1 : z.toNat < 2 ^ k) (hj : k ≤ j.toNat) : ¬ tb z j := by
  rw [tb_nn h0]
  rintro ⟨-, h⟩
  have := Nat.testBit_lt_two_pow (x := z.toNat) (i := j.toNat) (Nat.lt_of_lt_of_le h1 (Nat.pow_le_pow_right (by decide) hj))
  rw [this] at h
  cases h
theorem tb_zero {j : Int} : ¬ tb 0 j := by
  unfold tb
  rw [show Int32.ofInt 0 = 0 from rfl, b_0]
  simp
/-- no bit from k on: below 2 ^ k -/
theorem rng_of {X : Int32} (k : Nat) (hk : k ≤ 31) (h : ∀ j, k ≤ j → j < 32 → bt X j = false) : 0 ≤ X.toInt ∧ X.toInt.toNat < 2 ^ k := by
  have hX : X = nI X.toBitVec.toNat := by
    apply Int32.toBitVec_inj.mp
    show _ = BitVec.ofNat 32 _
    simp
  have hb : X.toBitVec.toNat < 2 ^ 32 := X.toBitVec.isLt
  generalize X.toBitVec.toNat = n at hX hb
  subst hX
  have hn : n < 2 ^ k := by
    apply Nat.lt_pow_two_of_testBit
    intro j hj
    by_cases hj2 : j < 32
    · have := h j hj hj2
      rw [bt_nat] at this
      simpa [hj2] using this
    · exact Nat.testBit_lt_two_pow (Nat.lt_of_lt_of_le hb (Nat.pow_le_pow_right (by decide) (by omega)))
  have h31 : n < 2 ^ 31 := Nat.lt_of_lt_of_le hn (Nat.pow_le_pow_right (by decide) hk)
  rw [nI_toInt h31]
  exact ⟨by omega, by simpa using hn⟩
theorem or_rng {a b : Int} (k : Nat) (hk : k ≤ 31) (ha : 0 ≤ a ∧ a.toNat < 2 ^ k) (hb : 0 ≤ b ∧ b.toNat < 2 ^ k) : 0 ≤ iOr a b ∧ (iOr a b).toNat < 2 ^ k := by
  refine rng_of k hk fun j h1 h2 => ?_
  rw [b_or]
  have q1 := tb_hi (j := (j : Int)) k ha.1 ha.2 (by simpa using h1)
  have q2 := tb_hi (j := (j : Int)) k hb.1 hb.2 (by simpa using h1)
  unfold tb at q1 q2
  simp at q1 q2
  simp [q1, q2]
theorem and_rng {a b : Int} (k : Nat) (hk : k ≤ 31) (ha : 0 ≤ a ∧ a.toNat < 2 ^ k) : 0 ≤ iAnd a b ∧ (iAnd a b).toNat < 2 ^ k := by
  refine rng_of k hk fun j h1 h2 => ?_
  rw [b_and]
  have q1 := tb_hi (j := (j : Int)) k ha.1 ha.2 (by simpa using h1)
  unfold tb at q1
  simp at q1
  simp [q1]
theorem shl1_rng {i : Int} (k : Nat) (hk : k ≤ 31) (hi : 0 ≤ i ∧ i.toNat < k) : 0 ≤ iShl 1 i ∧ (iShl 1 i).toNat < 2 ^ k := by
  refine rng_of k hk fun j h1 h2 => ?_
  have q := tb_shl1 (i := i) (j := (j : Int)) (by omega) (by omega)
  unfold tb iShl at q
  rw [Int32.ofInt_toInt] at q
  cases hb : bt (Int32.ofInt 1 <<< (Int32.ofInt i &&& 31)) j with
  | false => rfl
  | true =>
    have := q.mp (by simpa using hb)
    omega
theorem tb_ext {z w : Int} (hz : -2147483648 ≤ z ∧ z < 2147483648) (hw : -2147483648 ≤ w ∧ w < 2147483648) (h : ∀ j : Int, 0 ≤ j → j < 32 → (tb z j ↔ tb w j)) : z = w := by
  rw [← i32_in hz, ← i32_in hw]
  refine i32_ext fun j hj => ?_
  have := h (j : Int) (by omega) (by omega)
  unfold tb at this
  simp at this
  cases h1 : bt (Int32.ofInt z) j <;> cases h2 : bt (Int32.ofInt w) j <;> simp_all
theorem iop_r (X : Int32) : -2147483648 ≤ X.toInt ∧ X.toInt < 2147483648 := ⟨by have := Int32.le_toInt X; omega, by have := Int32.toInt_lt X; omega⟩
theorem iOr_r {a b : Int} : -2147483648 ≤ iOr a b ∧ iOr a b < 2147483648 := iop_r _
theorem iAnd_r {a b : Int} : -2147483648 ≤ iAnd a b ∧ iAnd a b < 2147483648 := iop_r _
theorem iXor_r {a b : Int} : -2147483648 ≤ iXor a b ∧ iXor a b < 2147483648 := iop_r _
theorem iShl_r {a b : Int} : -2147483648 ≤ iShl a b ∧ iShl a b < 2147483648 := iop_r _
theorem iShr_r {a b : Int} : -2147483648 ≤ iShr a b ∧ iShr a b < 2147483648 := iop_r _
/-- none of a's bits is outside b -/
theorem andnot0 {a b : Int} : iAnd a (iXor b (-1)) = 0 ↔ ∀ j : Int, 0 ≤ j → j < 32 → tb a j → tb b j := by
  constructor
  · intro h j h0 h1 ha
    by_cases hb : tb b j
    · exact hb
    · exact absurd (show tb (iAnd a (iXor b (-1))) j from tb_and.mpr ⟨ha, (tb_not ⟨h0, h1⟩).mpr hb⟩) (by rw [h]; exact tb_zero)
  · intro h
    refine tb_ext iAnd_r (by decide) fun j h0 h1 => ?_
    rw [tb_and, tb_not ⟨h0, h1⟩]
    exact ⟨fun q => absurd (h j h0 h1 q.1) q.2, fun q => absurd q tb_zero⟩
