/-! the planner: its small methods -/
def nib (P y : Int) : Int := iAnd (iShr P (y * 4)) 15
def W20 (P : Int) : Prop := 0 ≤ P ∧ P.toNat < 2 ^ 20
theorem tb_15 {j : Int} (hj : 0 ≤ j ∧ j < 32) : tb 15 j ↔ j < 4 := by
  have key : ∀ k, k < 32 → bt (Int32.ofInt 15) k = decide (k < 4) := by decide +kernel
  unfold tb
  rw [key _ (by omega)]
  simp only [decide_eq_true_eq]
  omega
theorem tb_nib {P y j : Int} (hy : 0 ≤ y ∧ y < 5) (hj : 0 ≤ j ∧ j < 32) : tb (nib P y) j ↔ j < 4 ∧ tb P (4 * y + j) := by
  unfold nib
  rw [tb_and, tb_15 hj]
  constructor
  · rintro ⟨q, q2⟩
    rw [tb_shr (by omega) hj.1 (by omega), show y * 4 + j = 4 * y + j by omega] at q
    exact ⟨q2, q⟩
  · rintro ⟨q, q2⟩
    rw [tb_shr (by omega) hj.1 (by omega), show y * 4 + j = 4 * y + j by omega]
    exact ⟨q2, q⟩
theorem nib_r {P y : Int} (hy : 0 ≤ y ∧ y < 5) : 0 ≤ nib P y ∧ nib P y ≤ 15 := by
  have h := rng_of (X := Int32.ofInt (iShr P (y * 4)) &&& Int32.ofInt 15) 4 (by decide) (fun j j0 j1 => by
    have q := tb_nib (P := P) (y := y) (j := (j : Int)) hy (by omega)
    unfold tb nib iAnd at q
    rw [Int32.ofInt_toInt] at q
    cases hb : bt (Int32.ofInt (iShr P (y * 4)) &&& Int32.ofInt 15) j with
    | false => rfl
    | true => have := (q.mp (by simpa using hb)).1; omega)
  have h1 := h.1
  have h2 := h.2
  rw [show (2 : Nat) ^ 4 = 16 from rfl] at h2
  unfold nib iAnd
  omega
theorem nib_ext {P Q y : Int} {z : Int} (hy : 0 ≤ y ∧ y < 5) (hz : 0 ≤ z ∧ z < 5) (h : ∀ j : Int, 0 ≤ j → j < 4 → (tb P (4 * y + j) ↔ tb Q (4 * z + j))) : nib P y = nib Q z := by
  have r1 := nib_r (P := P) hy
  have r2 := nib_r (P := Q) hz
  refine tb_ext (by omega) (by omega) fun j h0 h1 => ?_
  rw [tb_nib hy ⟨h0, h1⟩, tb_nib hz ⟨h0, h1⟩]
  exact ⟨fun q => ⟨q.1, (h j h0 q.1).mp q.2⟩, fun q => ⟨q.1, (h j h0 q.1).mpr q.2⟩⟩
/-- P with c at place y -/
def pset (P y c : Int) : Int := iOr (iAnd P (iXor (iShl 15 (y * 4)) (-1))) (iShl c (y * 4))
theorem tb_pset {P y c k : Int} (hy : 0 ≤ y ∧ y < 5) (hk : 0 ≤ k ∧ k < 32) (hc : 0 ≤ c ∧ c ≤ 15) : tb (pset P y c) k ↔ (if 4 * y ≤ k ∧ k < 4 * y + 4 then tb c (k - 4 * y) else tb P k) := by
  unfold pset
  rw [tb_or, tb_and, tb_not hk, tb_shl (by omega) hk, tb_shl (by omega) hk, show y * 4 = 4 * y by omega]
  by_cases q : 4 * y ≤ k ∧ k < 4 * y + 4
  · rw [if_pos q, tb_15 (by omega)]
    exact ⟨fun z => z.elim (fun z => absurd ⟨q.1, by omega⟩ z.2) (fun z => z.2), fun z => Or.inr ⟨q.1, z⟩⟩
  · rw [if_neg q]
    constructor
    · rintro (⟨z, -⟩ | ⟨z1, z2⟩)
      · exact z
      · exact absurd z2 (tb_hi 4 hc.1 (by rw [show (2 : Nat) ^ 4 = 16 from rfl]; omega) (by omega))
    · intro z
      refine Or.inl ⟨z, fun z2 => ?_⟩
      rw [tb_15 (by omega)] at z2
      omega
theorem pset_r {P y c : Int} (hP : W20 P) (hy : 0 ≤ y ∧ y < 5) (hc : 0 ≤ c ∧ c ≤ 15) : W20 (pset P y c) := by
  have q := fun j : Int => fun hj => tb_pset (P := P) (y := y) (c := c) (k := j) hy hj hc
  unfold pset iOr at q ⊢
  refine rng_of 20 (by decide) fun j h1 h2 => ?_
  have q := q (j : Int) (by omega)
  unfold tb at q
  rw [Int32.ofInt_toInt] at q
  cases hb : bt (Int32.ofInt (iAnd P (iXor (iShl 15 (y * 4)) (-1))) ||| Int32.ofInt (iShl c (y * 4))) j with
  | false => rfl
  | true =>
    have q := q.mp (by simpa using hb)
    rw [if_neg (by omega)] at q
    exact absurd (show tb P (j : Int) from q) (tb_hi 20 hP.1 hP.2 (by omega))
theorem nib_pset {P y c z : Int} (hy : 0 ≤ y ∧ y < 5) (hz : 0 ≤ z ∧ z < 5) (hc : 0 ≤ c ∧ c ≤ 15) : nib (pset P y c) z = if z = y then c else nib P z := by
  by_cases e : z = y
  · subst e
    rw [if_pos rfl]
    have hr := nib_r (P := pset P z c) hz
    refine tb_ext (by omega) (by omega) fun j h0 h1 => ?_
    rw [tb_nib hz ⟨h0, h1⟩]
    constructor
    · rintro ⟨q, q2⟩
      rw [tb_pset hz (by omega) hc, if_pos (by omega), show 4 * z + j - 4 * z = j by omega] at q2
      exact q2
    · intro q
      have j4 : j < 4 := by
        rcases Int.lt_or_le j 4 with l | l
        · exact l
        · exact absurd q (tb_hi 4 hc.1 (by rw [show (2 : Nat) ^ 4 = 16 from rfl]; omega) (by omega))
      refine ⟨j4, ?_⟩
      rw [tb_pset hz (by omega) hc, if_pos (by omega), show 4 * z + j - 4 * z = j by omega]
      exact q
  · rw [if_neg e]
    refine nib_ext hz hz fun j h0 h1 => ?_
    rw [tb_pset hy (by omega) hc, if_neg (by omega)]
theorem bcF_r {x : Int} : -2147483648 ≤ bcF x ∧ bcF x < 2147483648 := iAnd_r
theorem and1 {w k : Int} (hk : 0 ≤ k ∧ k < 32) : iAnd w (iShl 1 k) = 0 ↔ ¬ tb w k := by
  rw [and0]
  constructor
  · intro h q; exact h k hk.1 hk.2 ⟨q, (tb_shl1 hk hk).mpr rfl⟩
  · rintro h j j0 j1 ⟨q, q2⟩
    rw [tb_shl1 hk ⟨j0, j1⟩] at q2
    exact h (by rw [← q2]; exact q)
theorem and2 {w k m : Int} (hk : 0 ≤ k ∧ k < 32) (hm : 0 ≤ m ∧ m < 32) : iAnd w (iOr (iShl 1 k) (iShl 1 m)) = 0 ↔ ¬ tb w k ∧ ¬ tb w m := by
  rw [and0]
  constructor
  · intro h
    exact ⟨fun q => h k hk.1 hk.2 ⟨q, tb_or.mpr (Or.inl ((tb_shl1 hk hk).mpr rfl))⟩, fun q => h m hm.1 hm.2 ⟨q, tb_or.mpr (Or.inr ((tb_shl1 hm hm).mpr rfl))⟩⟩
  · rintro ⟨h1, h2⟩ j j0 j1 ⟨q, q2⟩
    rw [tb_or, tb_shl1 hk ⟨j0, j1⟩, tb_shl1 hm ⟨j0, j1⟩] at q2
    rcases q2 with e | e
    · exact h1 (by rw [← e]; exact q)
    · exact h2 (by rw [← e]; exact q)
/-- what is below g, and g -/
def blw (w g : Int) : Int := iOr (iShl 1 g) (iAnd (iShr w (g * 5)) 31)
theorem tb_blw {w g j : Int} (hg : 0 ≤ g ∧ g < 5) (hj : 0 ≤ j ∧ j < 32) : tb (blw w g) j ↔ j = g ∨ (j < 5 ∧ tb w (5 * g + j)) := by
  unfold blw
  rw [tb_or, tb_shl1 (by omega) hj, tb_and, tb_31 hj]
  constructor
  · rintro (q | ⟨q, q2⟩)
    · exact Or.inl q
    · rw [tb_shr (by omega) hj.1 (by omega), show g * 5 + j = 5 * g + j by omega] at q
      exact Or.inr ⟨q2, q⟩
  · rintro (q | ⟨q, q2⟩)
    · exact Or.inl q
    · refine Or.inr ⟨?_, q⟩
      rw [tb_shr (by omega) hj.1 (by omega), show g * 5 + j = 5 * g + j by omega]
      exact q2
theorem blw_r {w g : Int} (hg : 0 ≤ g ∧ g < 5) : 0 ≤ blw w g ∧ (blw w g).toNat < 2 ^ 5 := by
  have q := fun j : Int => fun hj => tb_blw (w := w) (g := g) (j := j) hg hj
  unfold blw iOr at q ⊢
  refine rng_of 5 (by decide) fun j h1 h2 => ?_
  have q := q (j : Int) (by omega)
  unfold tb at q
  rw [Int32.ofInt_toInt] at q
  cases hb : bt (Int32.ofInt (iShl 1 g) ||| Int32.ofInt (iAnd (iShr w (g * 5)) 31)) j with
  | false => rfl
  | true =>
    have q := q.mp (by simpa using hb)
    omega
/-- joining under way: the rows of the groups before i are done -/
def JS (w h g i r : Int) : Prop := W25 r ∧ ∀ a b : Int, 0 ≤ a → a < 5 → 0 ≤ b → b < 5 → (tb r (5 * a + b) ↔ tb w (5 * a + b) ∨ (a < i ∧ (a = h ∨ tb w (5 * a + h)) ∧ (b = g ∨ tb w (5 * g + b))))
theorem JS_0 {w h g : Int} (hw : W25 w) : JS w h g 0 w := ⟨hw, fun a b a0 a1 b0 b1 => ⟨Or.inl, fun q => q.elim id (fun q => absurd q.1 (by omega))⟩⟩
theorem JS_no {w h g i r : Int} (hj : JS w h g i r) (hn : ¬ (i = h ∨ tb w (5 * i + h))) : JS w h g (i + 1) r := ⟨hj.1, fun a b a0 a1 b0 b1 => (hj.2 a b a0 a1 b0 b1).trans ⟨fun q => q.imp id (fun q => ⟨by omega, q.2⟩), fun q => q.imp id (fun q => by
  rcases (show a < i ∨ a = i by omega) with l | l
  · exact ⟨l, q.2⟩
  · exact absurd (by rw [← l]; exact q.2.1) hn)⟩⟩
theorem JS_yes {w h g i r : Int} (hj : JS w h g i r) (hg : 0 ≤ g ∧ g < 5) (hi : 0 ≤ i ∧ i < 5) (hy : i = h ∨ tb w (5 * i + h)) : JS w h g (i + 1) (iOr r (iShl (blw w g) (i * 5))) := by
  refine ⟨or_rng 25 (by decide) hj.1 (shl_25 (blw_r hg) (by omega)), fun a b a0 a1 b0 b1 => ?_⟩
  rw [tb_or, hj.2 a b a0 a1 b0 b1, tb_shl (by omega) (by omega)]
  constructor
  · rintro ((q | q) | ⟨q, q2⟩)
    · exact Or.inl q
    · exact Or.inr ⟨by omega, q.2⟩
    · by_cases e : a = i
      · rw [show 5 * a + b - i * 5 = b by omega, tb_blw hg (by omega)] at q2
        exact Or.inr ⟨by omega, by rw [e]; exact hy, q2.imp id (fun z => z.2)⟩
      · exact absurd q2 (tb_hi 5 (blw_r hg).1 (blw_r hg).2 (by omega))
  · rintro (q | ⟨q, q2, q3⟩)
    · exact Or.inl (Or.inl q)
    · by_cases e : a = i
      · refine Or.inr ⟨by omega, ?_⟩
        rw [show 5 * a + b - i * 5 = b by omega, tb_blw hg (by omega)]
        exact q3.imp id (fun z => ⟨b1, z⟩)
      · exact Or.inl (Or.inr ⟨by omega, q2, q3⟩)
theorem JS_JB {G w h g r : Int} (hw : OW G w) (hG : G ≤ 5) (hh : 0 ≤ h ∧ h < G) (hg : 0 ≤ g ∧ g < G) (hj : JS w h g G r) : JB w h g r := by
  refine ⟨hj.1, funext fun a => funext fun b => propext ?_⟩
  constructor
  · rintro ⟨a0, b0, q⟩
    rcases (hj.2 a b a0.1 a0.2 b0.1 b0.2).mp q with q | ⟨-, q1, q2⟩
    · exact Or.inl ⟨a0, b0, q⟩
    · exact Or.inr ⟨q1.imp id (fun z => ⟨a0, by omega, z⟩), q2.imp id (fun z => ⟨by omega, b0, z⟩)⟩
  · intro q
    have ab : (0 ≤ a ∧ a < G) ∧ 0 ≤ b ∧ b < G := by
      rcases q with q | ⟨q1, q2⟩
      · exact hw.2.1 a b q
      · exact ⟨q1.elim (fun z => by rw [z]; exact hh) (fun z => (hw.2.1 _ _ z).1), q2.elim (fun z => by rw [z]; exact hg) (fun z => (hw.2.1 _ _ z).2)⟩
    refine ⟨by omega, by omega, (hj.2 a b (by omega) (by omega) (by omega) (by omega)).mpr ?_⟩
    rcases q with q | ⟨q1, q2⟩
    · exact Or.inl q.2.2
    · exact Or.inr ⟨ab.1.2, q1.imp id (fun z => z.2.2), q2.imp id (fun z => z.2.2)⟩
theorem cdO_s {w g : Int} (hg : 1 ≤ g) : cdA w g (cdO w (g - 1).toNat) g.toNat = cdO w g.toNat := by
  have h : cdO w ((g - 1).toNat + 1) = cdA w (((g - 1).toNat : Int) + 1) (cdO w (g - 1).toNat) ((g - 1).toNat + 1) := rfl
  rw [show (g - 1).toNat + 1 = g.toNat by omega, show ((g - 1).toNat : Int) + 1 = g by omega] at h
  exact h.symm
section PLAN
variable {l : Launch} {G : Glb} {S : Sh} {μ : Mu} {b : Nat} {n : Int} {N0 : Nat}
set_option maxHeartbeats 4000000 in
set_option maxRecDepth 100000 in
theorem c_X3_pair {h g : Int} : Ct l G cX3_pair (yX3_pair, 2, (some FieldType.int), 0, 0, 0) [vi h, vi g] S μ (Ri S (iShl 1 (h * 5 + g)) μ) := by
  refine Ct.of (by decide) rfl (by simp [vi, Value.category]) (Nat.le_of_ble_eq_true rfl) ?_
  refine v_iconst aX3_pair_0 ?_
  refine v_iload_n aX3_pair_1 rfl ?_
  refine v_iconst aX3_pair_2 ?_
  refine v_imul aX3_pair_3 ?_
  refine v_iload_n aX3_pair_4 rfl ?_
  refine v_iadd aX3_pair_5 ?_
  refine v_ishl aX3_pair_6 ?_
  refine v_ireturn aX3_pair_7 rfl ⟨Nat.le_refl _, Nat.le_refl _⟩ ?_
  exact ⟨rfl, rfl, rfl⟩
set_option maxHeartbeats 4000000 in
set_option maxRecDepth 100000 in
theorem c_X3_isOpen {w h g : Int} (hh : 0 ≤ h ∧ h < 5) (hg : 0 ≤ g ∧ g < 5) : Ct l G cX3_isOpen (yX3_isOpen, 3, (some FieldType.boolean), 1, 0, 0) [vi w, vi h, vi g] S μ (Ri S (b2i (¬ tb w (5 * h + g) ∧ ¬ tb w (5 * g + h))) μ) := by
  have e := and2 (w := w) (k := h * 5 + g) (m := g * 5 + h) (by omega) (by omega)
  rw [show h * 5 + g = 5 * h + g by omega, show g * 5 + h = 5 * g + h by omega] at e
  have r := iAnd_r (a := w) (b := iOr (iShl 1 (5 * h + g)) (iShl 1 (5 * g + h)))
  refine Ct.of (by decide) rfl (by simp [vi, Value.category]) (Nat.le_of_ble_eq_true rfl) ?_
  refine v_iload_n aX3_isOpen_0 rfl ?_
  refine v_iload_n aX3_isOpen_1 rfl ?_
  refine v_iload_n aX3_isOpen_2 rfl ?_
  refine v_cSi (c_X3_pair) aX3_isOpen_3 mX3_pair sX3_pair lX3_34 rfl rfl (Nat.le_of_ble_eq_true rfl) ⟨Nat.le_of_ble_eq_true rfl, Nat.le_of_ble_eq_true rfl⟩ (Nat.le_of_ble_eq_true rfl) ?_
  refine v_iload_n aX3_isOpen_6 rfl ?_
  refine v_iload_n aX3_isOpen_7 rfl ?_
  refine v_cSi (c_X3_pair) aX3_isOpen_8 mX3_pair sX3_pair lX3_34 rfl rfl (Nat.le_of_ble_eq_true rfl) ⟨Nat.le_of_ble_eq_true rfl, Nat.le_of_ble_eq_true rfl⟩ (Nat.le_of_ble_eq_true rfl) ?_
  refine v_ior aX3_isOpen_11 ?_
  refine v_iand aX3_isOpen_12 ?_
  rw [show h * 5 + g = 5 * h + g by omega, show g * 5 + h = 5 * g + h by omega]
  refine v_if_ne 20 rfl aX3_isOpen_13 (by omega) (fun c13 => ?_) (fun c13 => ?_)
  · --
    refine v_iconst aX3_isOpen_20 ?_
    refine v_zreturn aX3_isOpen_21 rfl ⟨Nat.le_refl _, Nat.le_refl _⟩ (by first | exact Or.inl rfl | exact Or.inr rfl | exact b2i_01 | omega) ?_
    exact ⟨congrArg (fun z => some (vi z)) (b2i_f (fun q => c13 (e.mpr q))).symm, rfl, rfl⟩
  · --
    refine v_iconst aX3_isOpen_16 ?_
    refine v_goto 21 rfl aX3_isOpen_17 ?_
    refine v_zreturn aX3_isOpen_21 rfl ⟨Nat.le_refl _, Nat.le_refl _⟩ (by first | exact Or.inl rfl | exact Or.inr rfl | exact b2i_01 | omega) ?_
    exact ⟨congrArg (fun z => some (vi z)) (b2i_t (e.mp (by omega))).symm, rfl, rfl⟩
set_option maxHeartbeats 4000000 in
set_option maxRecDepth 100000 in
theorem c_X3_costWith {P y : Int} : Ct l G cX3_costWith (yX3_costWith, 2, (some FieldType.int), 0, 0, 0) [vi P, vi y] S μ (Ri S (nib P y) μ) := by
  refine Ct.of (by decide) rfl (by simp [vi, Value.category]) (Nat.le_of_ble_eq_true rfl) ?_
  refine v_iload_n aX3_costWith_0 rfl ?_
  refine v_iload_n aX3_costWith_1 rfl ?_
  refine v_iconst aX3_costWith_2 ?_
  refine v_imul aX3_costWith_3 ?_
  refine v_ishr aX3_costWith_4 ?_
  refine v_bipush (by decide) aX3_costWith_5 ?_
  refine v_iand aX3_costWith_7 ?_
  refine v_ireturn aX3_costWith_8 rfl ⟨Nat.le_refl _, Nat.le_refl _⟩ ?_
  exact ⟨rfl, rfl, rfl⟩
set_option maxHeartbeats 4000000 in
set_option maxRecDepth 100000 in
theorem c_X3_worse {P Q y : Int} (hy : 0 ≤ y ∧ y < 5) : Ct l G cX3_worse (yX3_worse, 3, (some FieldType.int), 1, 0, 0) [vi P, vi Q, vi y] S μ (Ri S (max (nib P y) (nib Q y)) μ) := by
  have r1 := nib_r (P := P) hy
  have r2 := nib_r (P := Q) hy
  refine Ct.of (by decide) rfl (by simp [vi, Value.category]) (Nat.le_of_ble_eq_true rfl) ?_
  refine v_iload_n aX3_worse_0 rfl ?_
  refine v_iload_n aX3_worse_1 rfl ?_
  refine v_cSi (c_X3_costWith) aX3_worse_2 mX3_costWith sX3_costWith lX3_50 rfl rfl (Nat.le_of_ble_eq_true rfl) ⟨Nat.le_of_ble_eq_true rfl, Nat.le_of_ble_eq_true rfl⟩ (Nat.le_of_ble_eq_true rfl) ?_
  refine v_iload_n aX3_worse_5 rfl ?_
  refine v_iload_n aX3_worse_6 rfl ?_
  refine v_cSi (c_X3_costWith) aX3_worse_7 mX3_costWith sX3_costWith lX3_50 rfl rfl (Nat.le_of_ble_eq_true rfl) ⟨Nat.le_of_ble_eq_true rfl, Nat.le_of_ble_eq_true rfl⟩ (Nat.le_of_ble_eq_true rfl) ?_
  refine v_max (by omega) (by omega) lmX3_15 aX3_worse_10 (Nat.le_of_ble_eq_true rfl) ⟨Nat.le_of_ble_eq_true rfl, Nat.le_of_ble_eq_true rfl⟩ (Nat.le_of_ble_eq_true rfl) ?_
  refine v_ireturn aX3_worse_13 rfl ⟨Nat.le_refl _, Nat.le_refl _⟩ ?_
  exact ⟨rfl, rfl, rfl⟩
set_option maxHeartbeats 4000000 in
set_option maxRecDepth 100000 in
theorem c_X3_withLess {P y c : Int} (hP : W20 P) (hy : 0 ≤ y ∧ y < 5) (hc : 0 ≤ c ∧ c ≤ 100) : Ct l G cX3_withLess (yX3_withLess, 4, (some FieldType.int), 0, 0, 0) [vi P, vi y, vi c] S μ (Re S (fun z μ' => μ' = μ ∧ W20 z ∧ nib z y = min (nib P y) c ∧ ∀ y' : Int, 0 ≤ y' → y' < 5 → y' ≠ y → nib z y' = nib P y')) := by
  have r1 := nib_r (P := P) hy
  refine Ct.of (by decide) rfl (by simp [vi, Value.category]) (Nat.le_of_ble_eq_true rfl) ?_
  refine v_iload_n aX3_withLess_0 rfl ?_
  refine v_iconst aX3_withLess_1 ?_
  refine v_imul aX3_withLess_2 ?_
  refine v_istore_n aX3_withLess_3 (by decide) rfl ?_
  refine v_iload_n aX3_withLess_4 rfl ?_
  refine v_iload_n aX3_withLess_5 rfl ?_
  refine v_iload_n aX3_withLess_6 rfl ?_
  refine v_ishr aX3_withLess_7 ?_
  refine v_bipush (by decide) aX3_withLess_8 ?_
  refine v_iand aX3_withLess_10 ?_
  have r2 : -2147483648 ≤ iAnd (iShr P (y * 4)) 15 ∧ iAnd (iShr P (y * 4)) 15 < 2147483648 := iAnd_r
  have r3 : iAnd (iShr P (y * 4)) 15 = nib P y := rfl
  refine v_icmp_lt 16 rfl aX3_withLess_11 (by omega) (by omega) (fun c11 => ?_) (fun c11 => ?_)
  · --
    refine v_iload_n aX3_withLess_16 rfl ?_
    refine v_bipush (by decide) aX3_withLess_17 ?_
    refine v_iload_n aX3_withLess_19 rfl ?_
    refine v_ishl aX3_withLess_20 ?_
    refine v_iconst aX3_withLess_21 ?_
    refine v_ixor aX3_withLess_22 ?_
    refine v_iand aX3_withLess_23 ?_
    refine v_iload_n aX3_withLess_24 rfl ?_
    refine v_iload_n aX3_withLess_25 rfl ?_
    refine v_ishl aX3_withLess_26 ?_
    refine v_ior aX3_withLess_27 ?_
    refine v_ireturn aX3_withLess_28 rfl ⟨Nat.le_refl _, Nat.le_refl _⟩ ?_
    refine ⟨_, rfl, rfl, rfl, pset_r (P := P) (y := y) (c := c) hP hy (by omega), ?_, fun y' h0 h1 h2 => ?_⟩
    · rw [show iOr (iAnd P (iXor (iShl 15 (y * 4)) (-1))) (iShl c (y * 4)) = pset P y c from rfl, nib_pset hy hy (by omega), if_pos rfl]; omega
    · rw [show iOr (iAnd P (iXor (iShl 15 (y * 4)) (-1))) (iShl c (y * 4)) = pset P y c from rfl, nib_pset hy ⟨h0, h1⟩ (by omega), if_neg h2]
  · --
    refine v_iload_n aX3_withLess_14 rfl ?_
    refine v_ireturn aX3_withLess_15 rfl ⟨Nat.le_refl _, Nat.le_refl _⟩ ?_
    exact ⟨_, rfl, rfl, rfl, hP, by omega, fun _ _ _ _ => rfl⟩
set_option maxHeartbeats 4000000 in
set_option maxRecDepth 100000 in
theorem c_X3_isWhole {w : Int} (hP : PlnS S b N0) (hn : 1 ≤ n ∧ n ≤ 5) (hg : μ b 0 = n) (hp : μ b 1 = n * (n - 1) / 2) (hw : OW n w) : Ct l G cX3_isWhole (yX3_isWhole, 2, (some FieldType.boolean), 1, 0, 0) [.ref b, vi w] S μ (Ri S (b2i (WhR n (RB w))) μ) := by
  have e := hw.whole hn
  rw [← hp] at e
  have r := bcF_r (x := w)
  have r2 : 0 ≤ μ b 1 ∧ μ b 1 ≤ 100 := by
    rw [hp]
    rcases (show n = 1 ∨ n = 2 ∨ n = 3 ∨ n = 4 ∨ n = 5 by omega) with q | q | q | q | q <;> subst q <;> decide
  refine Ct.of (by decide) rfl (by simp [vi, Value.category]) (Nat.le_of_ble_eq_true rfl) ?_
  refine v_iload_n aX3_isWhole_0 rfl ?_
  refine v_cSi (c_J6_bitCount_0f7a4) aX3_isWhole_1 mJ6_bitCount_0f7a4 sJ6_bitCount_0f7a4 lX3_37 rfl rfl (Nat.le_of_ble_eq_true rfl) ⟨Nat.le_of_ble_eq_true rfl, Nat.le_of_ble_eq_true rfl⟩ (Nat.le_of_ble_eq_true rfl) ?_
  refine v_aload_n aX3_isWhole_4 rfl ?_
  refine v_gi 1 rfl aX3_isWhole_5 fX3_24 hP.p rfl rfl ?_
  refine v_icmp_lt 15 rfl aX3_isWhole_8 (by omega) (by omega) (fun c8 => ?_) (fun c8 => ?_)
  · --
    refine v_iconst aX3_isWhole_15 ?_
    refine v_zreturn aX3_isWhole_16 rfl ⟨Nat.le_refl _, Nat.le_refl _⟩ (by first | exact Or.inl rfl | exact Or.inr rfl | exact b2i_01 | omega) ?_
    exact ⟨congrArg (fun z => some (vi z)) (b2i_f (fun q => by have := e.mpr q; omega)).symm, rfl, rfl⟩
  · --
    refine v_iconst aX3_isWhole_11 ?_
    refine v_goto 16 rfl aX3_isWhole_12 ?_
    refine v_zreturn aX3_isWhole_16 rfl ⟨Nat.le_refl _, Nat.le_refl _⟩ (by first | exact Or.inl rfl | exact Or.inr rfl | exact b2i_01 | omega) ?_
    exact ⟨congrArg (fun z => some (vi z)) (b2i_t (e.mp (by omega))).symm, rfl, rfl⟩
set_option maxHeartbeats 4000000 in
set_option maxRecDepth 100000 in
theorem li_X3_joined {w h g : Int} (hP : PlnS S b N0) (hn : 1 ≤ n ∧ n ≤ 5) (hg : μ b 0 = n) (hw : OW n w) (hh : 0 ≤ h ∧ h < n) (hl : 0 ≤ g ∧ g < n) : ∀ (N : Nat) (i r : Int), (0 ≤ i ∧ i ≤ n) → n - i < N → JS w h g i r → V l G cX3_joined (yX3_joined, 7, (some FieldType.int), 1, 0, 0) (Re S (fun z μ' => μ' = μ ∧ JB w h g z)) (0, 0) S μ 20 [.ref b, vi w, vi h, vi g, vi (blw w g), vi r, vi i] [] := by
  intro N
  induction N with
  | zero => intros; omega
  | succ N ih =>
    intro i r h0 h1 hj
    refine v_iload aX3_joined_20 rfl ?_
    refine v_aload_n aX3_joined_22 rfl ?_
    refine v_gi 0 rfl aX3_joined_23 fX3_18 hP.p rfl rfl ?_
    refine v_icmp_ge 64 rfl aX3_joined_26 (by omega) (by omega) (fun c26 => ?_) (fun c26 => ?_)
    · --
      refine v_iload aX3_joined_64 rfl ?_
      refine v_ireturn aX3_joined_66 rfl ⟨Nat.le_refl _, Nat.le_refl _⟩ ?_
      obtain rfl : i = n := by omega
      exact ⟨_, rfl, rfl, rfl, JS_JB hw hn.2 hh hl hj⟩
    · --
      refine v_iload aX3_joined_29 rfl ?_
      refine v_iload_n aX3_joined_31 rfl ?_
      refine v_icmp_eq 46 rfl aX3_joined_32 (by omega) (by omega) (fun c32 => ?_) (fun c32 => ?_)
      · --
        refine v_iload aX3_joined_46 rfl ?_
        refine v_iload aX3_joined_48 rfl ?_
        refine v_iload aX3_joined_50 rfl ?_
        refine v_iconst aX3_joined_52 ?_
        refine v_imul aX3_joined_53 ?_
        refine v_ishl aX3_joined_54 ?_
        refine v_ior aX3_joined_55 ?_
        refine v_istore aX3_joined_56 (by decide) rfl ?_
        refine v_iinc aX3_joined_58 rfl (by decide) rfl ?_
        refine v_goto 20 rfl aX3_joined_61 ?_
        exact ih (i + 1) _ (by omega) (by omega) (JS_yes hj (by omega) (by omega) (Or.inl c32))
      · --
        refine v_iload_n aX3_joined_35 rfl ?_
        refine v_iload aX3_joined_36 rfl ?_
        refine v_iload_n aX3_joined_38 rfl ?_
        refine v_cSi (c_X3_pair) aX3_joined_39 mX3_pair sX3_pair lX3_34 rfl rfl (Nat.le_of_ble_eq_true rfl) ⟨Nat.le_of_ble_eq_true rfl, Nat.le_of_ble_eq_true rfl⟩ (Nat.le_of_ble_eq_true rfl) ?_
        refine v_iand aX3_joined_42 ?_
        have e := and1 (w := w) (k := i * 5 + h) (by omega)
        rw [show i * 5 + h = 5 * i + h by omega] at e
        rw [show i * 5 + h = 5 * i + h by omega]
        have r2 := iAnd_r (a := w) (b := iShl 1 (5 * i + h))
        refine v_if_eq 58 rfl aX3_joined_43 (by omega) (fun c43 => ?_) (fun c43 => ?_)
        · --
          refine v_iinc aX3_joined_58 rfl (by decide) rfl ?_
          refine v_goto 20 rfl aX3_joined_61 ?_
          exact ih (i + 1) _ (by omega) (by omega) (JS_no hj (fun q => q.elim c32 (e.mp c43)))
        · --
          refine v_iload aX3_joined_46 rfl ?_
          refine v_iload aX3_joined_48 rfl ?_
          refine v_iload aX3_joined_50 rfl ?_
          refine v_iconst aX3_joined_52 ?_
          refine v_imul aX3_joined_53 ?_
          refine v_ishl aX3_joined_54 ?_
          refine v_ior aX3_joined_55 ?_
          refine v_istore aX3_joined_56 (by decide) rfl ?_
          refine v_iinc aX3_joined_58 rfl (by decide) rfl ?_
          refine v_goto 20 rfl aX3_joined_61 ?_
          exact ih (i + 1) _ (by omega) (by omega) (JS_yes hj (by omega) (by omega) (Or.inr (Classical.not_not.mp (fun q => c43 (e.mpr q)))))
set_option maxHeartbeats 4000000 in
set_option maxRecDepth 100000 in
theorem c_X3_joined {w h g : Int} (hP : PlnS S b N0) (hn : 1 ≤ n ∧ n ≤ 5) (hg : μ b 0 = n) (hw : OW n w) (hh : 0 ≤ h ∧ h < n) (hl : 0 ≤ g ∧ g < n) : Ct l G cX3_joined (yX3_joined, 7, (some FieldType.int), 1, 0, 0) [.ref b, vi w, vi h, vi g] S μ (Re S (fun z μ' => μ' = μ ∧ JB w h g z)) := by
  refine Ct.of (by decide) rfl (by simp [vi, Value.category]) (Nat.le_of_ble_eq_true rfl) ?_
  refine v_iconst aX3_joined_0 ?_
  refine v_iload_n aX3_joined_1 rfl ?_
  refine v_ishl aX3_joined_2 ?_
  refine v_iload_n aX3_joined_3 rfl ?_
  refine v_iload_n aX3_joined_4 rfl ?_
  refine v_iconst aX3_joined_5 ?_
  refine v_imul aX3_joined_6 ?_
  refine v_ishr aX3_joined_7 ?_
  refine v_bipush (by decide) aX3_joined_8 ?_
  refine v_iand aX3_joined_10 ?_
  refine v_ior aX3_joined_11 ?_
  refine v_istore aX3_joined_12 (by decide) rfl ?_
  refine v_iload_n aX3_joined_14 rfl ?_
  refine v_istore aX3_joined_15 (by decide) rfl ?_
  refine v_iconst aX3_joined_17 ?_
  refine v_istore aX3_joined_18 (by decide) rfl ?_
  exact li_X3_joined hP hn hg hw hh hl 6 0 w (by omega) (by omega) (JS_0 hw.1)
set_option maxHeartbeats 4000000 in
set_option maxRecDepth 100000 in
theorem li_X3_codeOf {w Z i : Int} (hP : PlnS S b N0) (hn : 1 ≤ n ∧ n ≤ 5) (hg : μ b 0 = n) (hi : 1 ≤ i ∧ i < n) (hh : ∀ (L : List Value), V l G cX3_codeOf (yX3_codeOf, 5, (some FieldType.int), 1, 0, 0) (Ri S (cdO w (n - 1).toNat) μ) (0, 0) S μ 4 ([.ref b, vi w, vi (cdA w i Z i.toNat), vi (i + 1)] ++ L) []) : ∀ (N : Nat) (q z : Int), (0 ≤ q ∧ q ≤ i) → i - q < N → z = cdA w i Z q.toNat → V l G cX3_codeOf (yX3_codeOf, 5, (some FieldType.int), 1, 0, 0) (Ri S (cdO w (n - 1).toNat) μ) (0, 0) S μ 15 [.ref b, vi w, vi z, vi i, vi q] [] := by
  intro N
  induction N with
  | zero => intros; omega
  | succ N ih =>
    intro q z h0 h1 hz
    refine v_iload aX3_codeOf_15 rfl ?_
    refine v_iload_n aX3_codeOf_17 rfl ?_
    refine v_icmp_ge 62 rfl aX3_codeOf_18 (by omega) (by omega) (fun c18 => ?_) (fun c18 => ?_)
    · --
      refine v_iinc aX3_codeOf_62 rfl (by decide) rfl ?_
      refine v_goto 4 rfl aX3_codeOf_65 ?_
      obtain rfl : q = i := by omega
      subst hz
      exact hh [vi q]
    · --
      refine v_iload_n aX3_codeOf_21 rfl ?_
      refine v_iconst aX3_codeOf_22 ?_
      refine v_imul aX3_codeOf_23 ?_
      refine v_istore_n aX3_codeOf_24 (by decide) rfl ?_
      refine v_iload_n aX3_codeOf_25 rfl ?_
      refine v_iload_n aX3_codeOf_26 rfl ?_
      refine v_iload aX3_codeOf_27 rfl ?_
      refine v_cSi (c_X3_pair) aX3_codeOf_29 mX3_pair sX3_pair lX3_34 rfl rfl (Nat.le_of_ble_eq_true rfl) ⟨Nat.le_of_ble_eq_true rfl, Nat.le_of_ble_eq_true rfl⟩ (Nat.le_of_ble_eq_true rfl) ?_
      refine v_iand aX3_codeOf_32 ?_
      have e1 := and1 (w := w) (k := i * 5 + q) (by omega)
      rw [show i * 5 + q = 5 * i + q by omega] at e1
      rw [show i * 5 + q = 5 * i + q by omega]
      have r1 := iAnd_r (a := w) (b := iShl 1 (5 * i + q))
      refine v_if_eq 42 rfl aX3_codeOf_33 (by omega) (fun c33 => ?_) (fun c33 => ?_)
      · --
        refine v_iload_n aX3_codeOf_42 rfl ?_
        refine v_iload aX3_codeOf_43 rfl ?_
        refine v_iload_n aX3_codeOf_45 rfl ?_
        refine v_cSi (c_X3_pair) aX3_codeOf_46 mX3_pair sX3_pair lX3_34 rfl rfl (Nat.le_of_ble_eq_true rfl) ⟨Nat.le_of_ble_eq_true rfl, Nat.le_of_ble_eq_true rfl⟩ (Nat.le_of_ble_eq_true rfl) ?_
        refine v_iand aX3_codeOf_49 ?_
        have e2 := and1 (w := w) (k := q * 5 + i) (by omega)
        rw [show q * 5 + i = 5 * q + i by omega] at e2
        rw [show q * 5 + i = 5 * q + i by omega]
        have r2 := iAnd_r (a := w) (b := iShl 1 (5 * q + i))
        refine v_if_eq 56 rfl aX3_codeOf_50 (by omega) (fun c50 => ?_) (fun c50 => ?_)
        · --
          refine v_iinc aX3_codeOf_56 rfl (by decide) rfl ?_
          refine v_goto 15 rfl aX3_codeOf_59 ?_
          refine ih (q + 1) _ (by omega) (by omega) ?_
          rw [cdA_s h0.1, hz]
          unfold dgB
          rw [if_neg (fun q => e1.mp c33 (b2i_1.mp q)), if_neg (fun q => e2.mp c50 (b2i_1.mp q))]
          omega
        · --
          refine v_iinc aX3_codeOf_53 rfl (by decide) rfl ?_
          refine v_iinc aX3_codeOf_56 rfl (by decide) rfl ?_
          refine v_goto 15 rfl aX3_codeOf_59 ?_
          refine ih (q + 1) _ (by omega) (by omega) ?_
          rw [cdA_s h0.1, hz]
          unfold dgB
          rw [if_neg (fun q => e1.mp c33 (b2i_1.mp q)), if_pos (b2i_t (Classical.not_not.mp (fun q => c50 (e2.mpr q))))]
          omega
      · --
        refine v_iinc aX3_codeOf_36 rfl (by decide) rfl ?_
        refine v_goto 56 rfl aX3_codeOf_39 ?_
        refine v_iinc aX3_codeOf_56 rfl (by decide) rfl ?_
        refine v_goto 15 rfl aX3_codeOf_59 ?_
        refine ih (q + 1) _ (by omega) (by omega) ?_
        rw [cdA_s h0.1, hz]
        unfold dgB
        rw [if_pos (b2i_t (Classical.not_not.mp (fun q => c33 (e1.mpr q))))]
        omega
set_option maxHeartbeats 4000000 in
set_option maxRecDepth 100000 in
theorem lo_X3_codeOf {w : Int} (hP : PlnS S b N0) (hn : 1 ≤ n ∧ n ≤ 5) (hg : μ b 0 = n) : ∀ (N : Nat) (i z : Int) (L : List Value), (1 ≤ i ∧ i ≤ n) → n - i < N → z = cdO w (i - 1).toNat → V l G cX3_codeOf (yX3_codeOf, 5, (some FieldType.int), 1, 0, 0) (Ri S (cdO w (n - 1).toNat) μ) (0, 0) S μ 4 ([.ref b, vi w, vi z, vi i] ++ L) [] := by
  intro N
  induction N with
  | zero => intros; omega
  | succ N ih =>
    intro i z L h0 h1 hz
    refine v_take 4 rfl ?_
    show V _ _ _ _ _ _ _ _ _ [.ref b, vi w, vi z, vi i] _
    refine v_iload_n aX3_codeOf_4 rfl ?_
    refine v_aload_n aX3_codeOf_5 rfl ?_
    refine v_gi 0 rfl aX3_codeOf_6 fX3_18 hP.p rfl rfl ?_
    refine v_icmp_ge 68 rfl aX3_codeOf_9 (by omega) (by omega) (fun c9 => ?_) (fun c9 => ?_)
    · --
      refine v_iload_n aX3_codeOf_68 rfl ?_
      refine v_ireturn aX3_codeOf_69 rfl ⟨Nat.le_refl _, Nat.le_refl _⟩ ?_
      obtain rfl : i = n := by omega
      exact ⟨by rw [hz], rfl, rfl⟩
    · --
      refine v_iconst aX3_codeOf_12 ?_
      refine v_istore aX3_codeOf_13 (by decide) rfl ?_
      refine li_X3_codeOf (Z := z) hP hn hg (by omega) (fun L2 => ?_) 6 0 z (by omega) (by omega) rfl
      refine ih (i + 1) _ L2 (by omega) (by omega) ?_
      rw [hz, cdO_s h0.1, show i + 1 - 1 = i by omega]
set_option maxHeartbeats 4000000 in
set_option maxRecDepth 100000 in
theorem c_X3_codeOf {w : Int} (hP : PlnS S b N0) (hn : 1 ≤ n ∧ n ≤ 5) (hg : μ b 0 = n) : Ct l G cX3_codeOf (yX3_codeOf, 5, (some FieldType.int), 1, 0, 0) [.ref b, vi w] S μ (Ri S (cdO w (n - 1).toNat) μ) := by
  refine Ct.of (by decide) rfl (by simp [vi, Value.category]) (Nat.le_of_ble_eq_true rfl) ?_
  refine v_iconst aX3_codeOf_0 ?_
  refine v_istore_n aX3_codeOf_1 (by decide) rfl ?_
  refine v_iconst aX3_codeOf_2 ?_
  refine v_istore_n aX3_codeOf_3 (by decide) rfl ?_
  exact lo_X3_codeOf hP hn hg 6 1 0 [] (by omega) (by omega) rfl
end PLAN
