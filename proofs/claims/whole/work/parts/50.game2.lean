/-! the value of the game: how many lifts are enough in the worst case -/
def chn (R : Rl) : Int → List Int → Prop
  | _, [] => True
  | a, b :: t => (R a b ∨ R b a) ∧ chn R b t
def pth (G : Int) : Int → List Int → Prop
  | _, [] => True
  | a, b :: t => (0 ≤ b ∧ b < G) ∧ a ≠ b ∧ pth G b t
theorem walkW {G : Int} : ∀ (l : List Int) {a : Int} {R : Rl}, SPO G R → (0 ≤ a ∧ a < G) → pth G a l → (∀ R' : Rl, SPO G R' → SubR R R' → chn R' a l → WhR G R') → Win G l.length R a
  | [], _, R, h, _, _, hh => hh R h (fun _ _ z => z) trivial
  | _ :: t, _, _, h, ha, hp, hh => cmp1 h ha hp.1 hp.2.1 (fun _ h' hs hab => walkW t h' hp.1 hp.2.2 (fun R2 h2 hs2 hc => hh R2 h2 (fun i j z => hs2 i j (hs i j z)) ⟨hab.imp (hs2 _ _) (hs2 _ _), hc⟩))
theorem win_1 {R : Rl} (h : SPO 1 R) : Win 1 10 R 0 := by
  refine Win.up (n := 0) 10 (by decide) (walkW [] h (by decide) (by simp [pth]) (fun R' h' hs hc => ?_))
  intro a b a0 a1 b0 b1 ne
  omega
theorem win_2 {R : Rl} (h : SPO 2 R) : Win 2 10 R 0 := by
  refine Win.up (n := 1) 10 (by decide) (walkW [1] h (by decide) (by simp [pth]) (fun R' h' hs hc => ?_))
  intro a b a0 a1 b0 b1 ne
  obtain ⟨c0, -⟩ := hc
  rcases (show a = 0 ∨ a = 1 by omega) with q | q <;> rcases (show b = 0 ∨ b = 1 by omega) with q2 | q2 <;> subst q <;> subst q2 <;> first
    | exact absurd rfl ne
    | exact c0
    | exact c0.symm
theorem win_3 {R : Rl} (h : SPO 3 R) : Win 3 10 R 0 := by
  refine Win.up (n := 3) 10 (by decide) (walkW [1, 2, 0] h (by decide) (by simp [pth]) (fun R' h' hs hc => ?_))
  intro a b a0 a1 b0 b1 ne
  obtain ⟨c0, c1, c2, -⟩ := hc
  rcases (show a = 0 ∨ a = 1 ∨ a = 2 by omega) with q | q | q <;> rcases (show b = 0 ∨ b = 1 ∨ b = 2 by omega) with q2 | q2 | q2 <;> subst q <;> subst q2 <;> first
    | exact absurd rfl ne
    | exact c0
    | exact c0.symm
    | exact c1
    | exact c1.symm
    | exact c2
    | exact c2.symm
theorem win_4 {R : Rl} (h : SPO 4 R) : Win 4 10 R 0 := by
  refine Win.up (n := 7) 10 (by decide) (walkW [1, 2, 3, 0, 2, 1, 3] h (by decide) (by simp [pth]) (fun R' h' hs hc => ?_))
  intro a b a0 a1 b0 b1 ne
  obtain ⟨c0, c1, c2, c3, c4, c5, c6, -⟩ := hc
  rcases (show a = 0 ∨ a = 1 ∨ a = 2 ∨ a = 3 by omega) with q | q | q | q <;> rcases (show b = 0 ∨ b = 1 ∨ b = 2 ∨ b = 3 by omega) with q2 | q2 | q2 | q2 <;> subst q <;> subst q2 <;> first
    | exact absurd rfl ne
    | exact c0
    | exact c0.symm
    | exact c1
    | exact c1.symm
    | exact c2
    | exact c2.symm
    | exact c3
    | exact c3.symm
    | exact c4
    | exact c4.symm
    | exact c5
    | exact c5.symm
    | exact c6
    | exact c6.symm
theorem win_5 {R : Rl} (h : SPO 5 R) : Win 5 10 R 0 := by
  refine Win.up (n := 10) 10 (by decide) (walkW [1, 2, 3, 4, 0, 2, 4, 1, 3, 0] h (by decide) (by simp [pth]) (fun R' h' hs hc => ?_))
  intro a b a0 a1 b0 b1 ne
  obtain ⟨c0, c1, c2, c3, c4, c5, c6, c7, c8, c9, -⟩ := hc
  rcases (show a = 0 ∨ a = 1 ∨ a = 2 ∨ a = 3 ∨ a = 4 by omega) with q | q | q | q | q <;> rcases (show b = 0 ∨ b = 1 ∨ b = 2 ∨ b = 3 ∨ b = 4 by omega) with q2 | q2 | q2 | q2 | q2 <;> subst q <;> subst q2 <;> first
    | exact absurd rfl ne
    | exact c0
    | exact c0.symm
    | exact c1
    | exact c1.symm
    | exact c2
    | exact c2.symm
    | exact c3
    | exact c3.symm
    | exact c4
    | exact c4.symm
    | exact c5
    | exact c5.symm
    | exact c6
    | exact c6.symm
    | exact c7
    | exact c7.symm
    | exact c8
    | exact c8.symm
    | exact c9
    | exact c9.symm
theorem win_0 {G : Int} {R : Rl} (hG : 1 ≤ G ∧ G ≤ 5) (h : SPO G R) : Win G 10 R 0 := by
  rcases (show G = 1 ∨ G = 2 ∨ G = 3 ∨ G = 4 ∨ G = 5 by omega) with e | e | e | e | e <;> subst e
  · exact win_1 h
  · exact win_2 h
  · exact win_3 h
  · exact win_4 h
  · exact win_5 h
theorem win_any {G : Int} {R : Rl} (hG : 1 ≤ G ∧ G ≤ 5) (h : SPO G R) (y : Int) : Win G 11 R y := by
  by_cases e : (0 : Int) = y
  · rw [← e]; exact Or.inl (win_0 hG h)
  · exact Or.inr ⟨0, by omega, e, fun hy => ⟨win_0 hG (jn_spo h (by omega) hy.1 e hy.2.1), win_0 hG (jn_spo h hy.1 (by omega) (fun z => e z.symm) hy.2.2)⟩, fun hy => win_0 hG h⟩
theorem win_least {G : Int} {R : Rl} {y : Int} : ∀ N : Nat, Win G N R y → ∃ v : Nat, v ≤ N ∧ ∀ n : Nat, Win G n R y ↔ v ≤ n
  | 0, h => ⟨0, Nat.le_refl _, fun n => ⟨fun _ => Nat.zero_le _, fun hn => h.up n hn⟩⟩
  | N + 1, h => by
    by_cases q : Win G N R y
    · obtain ⟨v, v0, v1⟩ := win_least N q
      exact ⟨v, by omega, v1⟩
    · exact ⟨N + 1, Nat.le_refl _, fun n => ⟨fun hn => Nat.not_lt.mp fun hl => q (hn.up N (by omega)), fun hn => h.up n hn⟩⟩
noncomputable def vl (G : Int) (R : Rl) (y : Int) : Nat := Classical.epsilon (fun v : Nat => ∀ n : Nat, Win G n R y ↔ v ≤ n)
theorem vl_iff {G : Int} {R : Rl} (hG : 1 ≤ G ∧ G ≤ 5) (h : SPO G R) (y : Int) : ∀ n : Nat, Win G n R y ↔ vl G R y ≤ n := by
  obtain ⟨v, -, hv⟩ := win_least 11 (win_any hG h y)
  exact Classical.epsilon_spec (p := fun v : Nat => ∀ n : Nat, Win G n R y ↔ v ≤ n) ⟨v, hv⟩
theorem vl_11 {G : Int} {R : Rl} (hG : 1 ≤ G ∧ G ≤ 5) (h : SPO G R) (y : Int) : vl G R y ≤ 11 := (vl_iff hG h y 11).mp (win_any hG h y)
theorem vl_0 {G : Int} {R : Rl} (hG : 1 ≤ G ∧ G ≤ 5) (h : SPO G R) (y : Int) : vl G R y = 0 ↔ WhR G R := by
  have := vl_iff hG h y 0
  constructor
  · intro q; exact this.mpr (by omega)
  · intro q; have := this.mp q; omega
/-- what laying g where y lies costs in the worst case -/
noncomputable def sgv (G : Int) (R : Rl) (y g : Int) : Nat := if b2i (OpR G R y g) = 1 then 1 + max (vl G (jnR R g y) g) (vl G (jnR R y g) g) else 1 + vl G R g
theorem sgv_o {G : Int} {R : Rl} {y g : Int} (h : OpR G R y g) : sgv G R y g = 1 + max (vl G (jnR R g y) g) (vl G (jnR R y g) g) := if_pos (b2i_t h)
theorem sgv_n {G : Int} {R : Rl} {y g : Int} (h : ¬ OpR G R y g) : sgv G R y g = 1 + vl G R g := if_neg (fun q => h (b2i_1.mp q))
theorem sgv_le {G : Int} {R : Rl} {y g : Int} (hG : 1 ≤ G ∧ G ≤ 5) (h : SPO G R) (hg : 0 ≤ g ∧ g < G) (hne : g ≠ y) {n : Nat} : sgv G R y g ≤ n + 1 ↔ (OpR G R y g → Win G n (jnR R g y) g ∧ Win G n (jnR R y g) g) ∧ (¬ OpR G R y g → Win G n R g) := by
  by_cases q : OpR G R y g
  · rw [sgv_o q, vl_iff hG (jn_spo h hg q.1 hne q.2.1), vl_iff hG (jn_spo h q.1 hg (fun z => hne z.symm) q.2.2)]
    constructor
    · intro w; exact ⟨fun _ => by omega, fun z => absurd q z⟩
    · intro w; have := w.1 q; omega
  · rw [sgv_n q, vl_iff hG h]
    constructor
    · intro w; exact ⟨fun z => absurd z q, fun _ => by omega⟩
    · intro w; have := w.2 q; omega
theorem sgv_pos {G : Int} {R : Rl} {y g : Int} : 1 ≤ sgv G R y g := by
  by_cases q : OpR G R y g
  · rw [sgv_o q]; omega
  · rw [sgv_n q]; omega
theorem vl_sgv {G : Int} {R : Rl} {y g : Int} (hG : 1 ≤ G ∧ G ≤ 5) (h : SPO G R) (hg : 0 ≤ g ∧ g < G) (hne : g ≠ y) : vl G R y ≤ sgv G R y g := by
  have hp := sgv_pos (G := G) (R := R) (y := y) (g := g)
  have := (sgv_le hG h hg hne (n := sgv G R y g - 1)).mp (by omega)
  have h2 := (vl_iff hG h y (sgv G R y g - 1 + 1)).mp (Or.inr ⟨g, hg, hne, this⟩)
  omega
theorem vl_ex {G : Int} {R : Rl} {y : Int} (hG : 1 ≤ G ∧ G ≤ 5) (h : SPO G R) (hw : ¬ WhR G R) : ∃ g : Int, (0 ≤ g ∧ g < G) ∧ g ≠ y ∧ vl G R y = sgv G R y g := by
  have h0 : vl G R y ≠ 0 := fun q => hw ((vl_0 hG h y).mp q)
  have h1 := (vl_iff hG h y (vl G R y - 1 + 1)).mpr (by omega)
  rcases h1 with h1 | ⟨g, hg, hne, h1⟩
  · have := (vl_iff hG h y _).mp h1; omega
  · have h2 := (sgv_le hG h hg hne).mpr h1
    have := vl_sgv hG h hg hne
    exact ⟨g, hg, hne, by omega⟩
theorem win_out {G : Int} {R : Rl} {y y' : Int} (hy : ¬ (0 ≤ y ∧ y < G)) (hy' : ¬ (0 ≤ y' ∧ y' < G)) : ∀ n : Nat, Win G n R y → Win G n R y'
  | 0, h => h
  | n + 1, h => by
    rcases h with h | ⟨g, hg, hne, -, h2⟩
    · exact Or.inl (win_out hy hy' n h)
    · exact Or.inr ⟨g, hg, fun e => hy' (by rw [← e]; exact hg), fun q => absurd q.1 hy', fun _ => h2 (fun q => hy q.1)⟩
theorem vl_out {G : Int} {R : Rl} {y y' : Int} (hG : 1 ≤ G ∧ G ≤ 5) (h : SPO G R) (hy : ¬ (0 ≤ y ∧ y < G)) (hy' : ¬ (0 ≤ y' ∧ y' < G)) : vl G R y = vl G R y' := by
  have h1 := (vl_iff hG h y' _).mp (win_out hy hy' _ ((vl_iff hG h y (vl G R y)).mpr (Nat.le_refl _)))
  have h2 := (vl_iff hG h y _).mp (win_out hy' hy _ ((vl_iff hG h y' (vl G R y')).mpr (Nat.le_refl _)))
  omega
theorem sgv_out {G : Int} {R : Rl} {y y' g : Int} (hy : ¬ (0 ≤ y ∧ y < G)) (hy' : ¬ (0 ≤ y' ∧ y' < G)) : sgv G R y g = sgv G R y' g := by
  rw [sgv_n (fun q => hy q.1), sgv_n (fun q => hy' q.1)]
/-! orders as bits: bit 5 * i + j says that i is heavier than j -/
def RB (w : Int) : Rl := fun i j => (0 ≤ i ∧ i < 5) ∧ (0 ≤ j ∧ j < 5) ∧ tb w (5 * i + j)
def W25 (w : Int) : Prop := 0 ≤ w ∧ w.toNat < 2 ^ 25
def OW (G w : Int) : Prop := W25 w ∧ SPO G (RB w)
theorem W25.r {w : Int} (h : W25 w) : -2147483648 ≤ w ∧ w < 2147483648 := by
  have h2 := h.2
  have h1 := h.1
  rw [show (2 : Nat) ^ 25 = 33554432 from rfl] at h2
  omega
theorem W25.lt {w : Int} (h : W25 w) : w < 33554432 := by
  have h2 := h.2
  have h1 := h.1
  rw [show (2 : Nat) ^ 25 = 33554432 from rfl] at h2
  omega
theorem RB_ext {w w' : Int} (h : W25 w) (h' : W25 w') (e : ∀ i j : Int, RB w i j ↔ RB w' i j) : w = w' := by
  refine tb_ext h.r h'.r fun k k0 k1 => ?_
  by_cases q : k < 25
  · have := e (k / 5) (k % 5)
    unfold RB at this
    rw [show 5 * (k / 5) + k % 5 = k by omega] at this
    have i0 : 0 ≤ k / 5 ∧ k / 5 < 5 := by omega
    have j0 : 0 ≤ k % 5 ∧ k % 5 < 5 := by omega
    exact ⟨fun z => (this.mp ⟨i0, j0, z⟩).2.2, fun z => (this.mpr ⟨i0, j0, z⟩).2.2⟩
  · exact ⟨fun z => absurd z (tb_hi 25 h.1 h.2 (by omega)), fun z => absurd z (tb_hi 25 h'.1 h'.2 (by omega))⟩
theorem OW.bit {G w i j : Int} (h : OW G w) (hi : 0 ≤ i ∧ i < 5) (hj : 0 ≤ j ∧ j < 5) : tb w (5 * i + j) ↔ RB w i j := ⟨fun z => ⟨hi, hj, z⟩, fun z => z.2.2⟩
/-- w' is w and that a is heavier than b, with all that follows -/
def JB (w a b w' : Int) : Prop := W25 w' ∧ RB w' = jnR (RB w) a b
theorem JB.ow {G w a b w' : Int} (h : JB w a b w') (hw : OW G w) (ha : 0 ≤ a ∧ a < G) (hb : 0 ≤ b ∧ b < G) (hne : a ≠ b) (h2 : ¬ RB w b a) : OW G w' := ⟨h.1, by rw [h.2]; exact jn_spo hw.2 ha hb hne h2⟩
theorem JB.un {w a b w' w2 : Int} (h : JB w a b w') (h' : JB w a b w2) : w' = w2 := RB_ext h.1 h'.1 (fun i j => by rw [h.2, h'.2])
theorem tb_shl {x i j : Int} (hi : 0 ≤ i ∧ i < 32) (hj : 0 ≤ j ∧ j < 32) : tb (iShl x i) j ↔ i ≤ j ∧ tb x (j - i) := by
  unfold tb iShl
  rw [Int32.ofInt_toInt, ofInt_nn hi.1, b_shl _ (by omega) _ (by omega)]
  by_cases h : i.toNat ≤ j.toNat
  · rw [show (j - i).toNat = j.toNat - i.toNat by omega]
    simp [h]
    omega
  · simp [h]
    omega
theorem and0 {a b : Int} : iAnd a b = 0 ↔ ∀ j : Int, 0 ≤ j → j < 32 → ¬ (tb a j ∧ tb b j) := by
  constructor
  · intro h j h0 h1 hb
    exact absurd (tb_and.mpr hb) (by rw [h]; exact tb_zero)
  · intro h
    refine tb_ext iAnd_r (by decide) fun j h0 h1 => ?_
    rw [tb_and]
    exact ⟨fun q => absurd q (h j h0 h1), fun q => absurd q tb_zero⟩
theorem tb_31 {j : Int} (hj : 0 ≤ j ∧ j < 32) : tb 31 j ↔ j < 5 := by
  have key : ∀ k, k < 32 → bt (Int32.ofInt 31) k = decide (k < 5) := by decide +kernel
  unfold tb
  rw [key _ (by omega)]
  simp only [decide_eq_true_eq]
  omega
theorem shl_25 {x i : Int} (hx : 0 ≤ x ∧ x.toNat < 2 ^ 5) (hi : 0 ≤ i ∧ i ≤ 20) : W25 (iShl x i) := by
  refine rng_of 25 (by decide) fun j h1 h2 => ?_
  have q := tb_shl (x := x) (i := i) (j := (j : Int)) (by omega) (by omega)
  have q2 : ¬ tb x ((j : Int) - i) := tb_hi 5 hx.1 hx.2 (by omega)
  unfold tb iShl at q
  rw [Int32.ofInt_toInt] at q
  cases hb : bt (Int32.ofInt x <<< (Int32.ofInt i &&& 31)) j with
  | false => rfl
  | true => exact absurd (q.mp (by simpa using hb)).2 q2
