/-! what follows of the count: each order has a code, a rank, and tells so many pairs -/
theorem sB_c {f g : Nat → Nat} : ∀ n : Nat, (∀ i, i < n → f i = g i) → sB n f = sB n g
  | 0, _ => rfl
  | n + 1, h => by
    show f n + sB n f = g n + sB n g
    rw [h n (by omega), sB_c n (fun i hi => h i (by omega))]
theorem sB_app {f : Nat → Nat} (a : Nat) : ∀ b : Nat, sB (a + b) f = sB a f + sB b (fun l => f (a + l))
  | 0 => rfl
  | b + 1 => by
    show f (a + b) + sB (a + b) f = sB a f + (f (a + b) + sB b (fun l => f (a + l)))
    rw [sB_app a b]; omega
theorem sB_mul {f : Nat → Nat} (b : Nat) : ∀ a : Nat, sB (b * a) f = sB a (fun h => sB b (fun l => f (b * h + l)))
  | 0 => rfl
  | a + 1 => by
    show sB (b * (a + 1)) f = sB b (fun l => f (b * a + l)) + sB a (fun h => sB b (fun l => f (b * h + l)))
    rw [show b * (a + 1) = b * a + b from rfl, sB_app, sB_mul b a]; omega
theorem sB_z {f : Nat → Nat} : ∀ n : Nat, (∀ i, i < n → f i = 0) → sB n f = 0
  | 0, _ => rfl
  | n + 1, h => by
    show f n + sB n f = 0
    rw [h n (by omega), sB_z n (fun i hi => h i (by omega))]
theorem sB_le {f : Nat → Nat} {a : Nat} : ∀ b : Nat, a < b → sB a f + f a ≤ sB b f
  | 0, h => absurd h (Nat.not_lt_zero _)
  | b + 1, h => by
    show _ ≤ f b + sB b f
    by_cases e : a = b
    · subst e; omega
    · have := sB_le (f := f) (a := a) b (by omega); omega
theorem cntE_eq : sB 59049 gB = cntE := by
  unfold cntE
  rw [show (59049 : Nat) = 81 * 729 from rfl, sB_mul, show (729 : Nat) = 27 * 27 from rfl, sB_mul]
  refine sB_c 27 (fun a _ => sB_c 27 (fun b _ => ?_))
  simp only [Nat.add_eq, Nat.mul_eq]
  have q : ∀ l, l < 81 → gB (81 * (27 * a + b) + l) = cond (p4 (27 * a + b)) (fB (81 * (27 * a + b) + l)) 0 := fun l hl => by
    unfold gB
    rw [show (81 * (27 * a + b) + l) / 81 = 27 * a + b by omega]
  generalize p4 (27 * a + b) = Q at *
  cases Q with
  | true => simp only [cond_true] at *; exact sB_c 81 q
  | false => simp only [cond_false] at *; exact sB_z 81 q
theorem cnt_le : sB 59049 gB ≤ 4333 := by
  rw [cntE_eq]
  exact cnt_k
/-- a code that passes: its digits tell its bits' number; it has a rank of its own -/
theorem gB_ok {c : Nat} (hc : c < 59049) (h4 : p4 (c / 81) = true) (h6 : p6 c = true) : gB c = 1 ∧ bcF ((wdN c : Nat) : Int) = ((nzN c : Nat) : Int) := by
  have h := sB_le (f := gB) 59049 hc
  have h2 := cnt_le
  have e : gB c = cond (bcB c) 1 100000 := by
    unfold gB fB
    rw [h4, h6]; rfl
  cases hb : bcB c with
  | true =>
    rw [hb] at e
    exact ⟨e, of_decide_eq_true hb⟩
  | false =>
    rw [hb] at e
    have e2 : gB c = 100000 := e
    omega
def rkC (c : Nat) : Nat := sB c gB
theorem rkC_lt {c : Nat} (hc : c < 59049) (h : gB c = 1) : rkC c < 4333 := by
  have h1 := sB_le (f := gB) 59049 hc
  have h2 := cnt_le
  unfold rkC
  omega
theorem rkC_inj {c d : Nat} (h : gB c = 1) (h' : gB d = 1) (e : rkC c = rkC d) : c = d := by
  unfold rkC at e
  rcases Nat.lt_trichotomy c d with q | q | q
  · have := sB_le (f := gB) d q; omega
  · exact q
  · have := sB_le (f := gB) c q; omega
/-! the code of an order -/
noncomputable def dgB (w g q : Int) : Int := if b2i (tb w (5 * g + q)) = 1 then 1 else if b2i (tb w (5 * q + g)) = 1 then 2 else 0
theorem dgB_r {w g q : Int} : 0 ≤ dgB w g q ∧ dgB w g q ≤ 2 := by
  unfold dgB
  split
  · omega
  · split <;> omega
noncomputable def cdA (w g z : Int) : Nat → Int
  | 0 => z
  | k + 1 => 3 * cdA w g z k + dgB w g k
noncomputable def cdO (w : Int) : Nat → Int
  | 0 => 0
  | k + 1 => cdA w ((k : Int) + 1) (cdO w k) (k + 1)
theorem cdA_s {w g z i : Int} (h : 0 ≤ i) : cdA w g z (i + 1).toNat = 3 * cdA w g z i.toNat + dgB w g i := by
  rw [show (i + 1).toNat = i.toNat + 1 by omega]
  show 3 * cdA w g z i.toNat + dgB w g (i.toNat : Int) = _
  rw [show ((i.toNat : Nat) : Int) = i by omega]
def cdN : Nat → Nat
  | 0 => 1
  | k + 1 => cdN k * 3 ^ (k + 1)
theorem cdA_r {w g z : Int} {N : Nat} (h : 0 ≤ z ∧ z < N) : ∀ k : Nat, 0 ≤ cdA w g z k ∧ cdA w g z k < ((N * 3 ^ k : Nat) : Int)
  | 0 => by simpa [cdA] using h
  | k + 1 => by
    have ih := cdA_r (w := w) (g := g) h k
    have hd := dgB_r (w := w) (g := g) (q := k)
    show 0 ≤ 3 * cdA w g z k + dgB w g k ∧ 3 * cdA w g z k + dgB w g k < ((N * 3 ^ (k + 1) : Nat) : Int)
    rw [show N * 3 ^ (k + 1) = 3 * (N * 3 ^ k) by rw [Nat.pow_succ]; ac_rfl]
    omega
theorem cdO_r {w : Int} : ∀ k : Nat, 0 ≤ cdO w k ∧ cdO w k < (cdN k : Int)
  | 0 => ⟨Int.le_refl _, Int.zero_lt_one⟩
  | k + 1 => cdA_r (cdO_r k) (k + 1)
theorem cdA_inj {w w' g z z' : Int} : ∀ k : Nat, cdA w g z k = cdA w' g z' k → z = z' ∧ ∀ q : Int, 0 ≤ q → q < k → dgB w g q = dgB w' g q
  | 0, h => ⟨h, fun q q0 q1 => by omega⟩
  | k + 1, h => by
    have h : 3 * cdA w g z k + dgB w g k = 3 * cdA w' g z' k + dgB w' g k := h
    have d1 := dgB_r (w := w) (g := g) (q := k)
    have d2 := dgB_r (w := w') (g := g) (q := k)
    obtain ⟨e1, e2⟩ := cdA_inj (w := w) (w' := w') (g := g) (z := z) (z' := z') k (by omega)
    refine ⟨e1, fun q q0 q1 => ?_⟩
    by_cases e : q = (k : Int)
    · rw [e]; omega
    · exact e2 q q0 (by omega)
theorem cdO_inj {w w' : Int} : ∀ k : Nat, cdO w k = cdO w' k → ∀ g q : Int, g ≤ k → 0 ≤ q → q < g → dgB w g q = dgB w' g q
  | 0, _ => fun g q g1 q0 q1 => by omega
  | k + 1, h => by
    obtain ⟨e1, e2⟩ := cdA_inj (k + 1) h
    intro g q g1 q0 q1
    by_cases e : g = (k : Int) + 1
    · rw [e]; exact e2 q q0 (by omega)
    · exact cdO_inj k e1 g q (by omega) q0 q1
theorem dgB_1 {w g q : Int} : dgB w g q = 1 ↔ tb w (5 * g + q) := by
  unfold dgB
  by_cases h : tb w (5 * g + q)
  · rw [if_pos (b2i_t h)]; simp [h]
  · rw [if_neg (fun z => h (b2i_1.mp z))]
    by_cases h2 : tb w (5 * q + g)
    · rw [if_pos (b2i_t h2)]; simp [h]
    · rw [if_neg (fun z => h2 (b2i_1.mp z))]; simp [h]
theorem dgB_2 {w g q : Int} (hn : ¬ (tb w (5 * g + q) ∧ tb w (5 * q + g))) : dgB w g q = 2 ↔ tb w (5 * q + g) := by
  unfold dgB
  by_cases h : tb w (5 * g + q)
  · rw [if_pos (b2i_t h)]
    constructor
    · intro z; omega
    · intro z; exact absurd ⟨h, z⟩ hn
  · rw [if_neg (fun z => h (b2i_1.mp z))]
    by_cases h2 : tb w (5 * q + g)
    · rw [if_pos (b2i_t h2)]; simp [h2]
    · rw [if_neg (fun z => h2 (b2i_1.mp z))]; simp [h2]
theorem OW.asym {G w a b : Int} (h : OW G w) (q : RB w a b) : ¬ RB w b a := fun q2 => h.2.2.1 a (h.2.2.2 a b a q q2)
/-- two orders with one code are one -/
theorem cdO_un {G w w' : Int} (hG : 1 ≤ G ∧ G ≤ 5) (h : OW G w) (h' : OW G w') (e : cdO w (G - 1).toNat = cdO w' (G - 1).toNat) : w = w' := by
  have hd := cdO_inj (G - 1).toNat e
  have key : ∀ (w w' : Int), OW G w → OW G w' → (∀ g q : Int, g ≤ ((G - 1).toNat : Nat) → 0 ≤ q → q < g → dgB w g q = dgB w' g q) → ∀ i j : Int, RB w i j → RB w' i j := fun w w' h h' hd i j q => by
    obtain ⟨hi, hj⟩ := h.2.1 i j q
    have hne : i ≠ j := fun e => h.2.2.1 i (by rw [← e] at q; exact q)
    rcases (show j < i ∨ i < j by omega) with l | l
    · have := hd i j (by omega) hj.1 l
      exact (h'.bit (by omega) (by omega)).mp (dgB_1.mp (this.symm.trans (dgB_1.mpr q.2.2)))
    · have := hd j i (by omega) hi.1 l
      have n1 : ¬ (tb w (5 * j + i) ∧ tb w (5 * i + j)) := fun z => h.asym q ((h.bit (by omega) (by omega)).mp z.1)
      have n2 : ¬ (tb w' (5 * j + i) ∧ tb w' (5 * i + j)) := fun z => h'.asym ((h'.bit (by omega) (by omega)).mp z.1) ((h'.bit (by omega) (by omega)).mp z.2)
      exact (h'.bit (by omega) (by omega)).mp ((dgB_2 n2).mp (this.symm.trans ((dgB_2 n1).mpr q.2.2)))
  exact RB_ext h.1 h'.1 (fun i j => ⟨key w w' h h' hd i j, key w' w h' h (fun g q a b c => (hd g q a b c).symm) i j⟩)
theorem OW.five {G w : Int} (hG : G ≤ 5) (h : OW G w) : OW 5 w := ⟨h.1, fun a b q => by have := h.2.1 a b q; omega, h.2.2⟩
theorem okT_ok {w i j k : Int} (h : OW 5 w) (hi : 0 ≤ i ∧ i < j) (hj : j < k) (hk : k < 5) : okT (dgB w j i).toNat (dgB w k j).toNat (dgB w k i).toNat = true := by
  have x := dgB_r (w := w) (g := j) (q := i)
  have y := dgB_r (w := w) (g := k) (q := j)
  have z := dgB_r (w := w) (g := k) (q := i)
  have as : ∀ a b : Int, 0 ≤ a → a < 5 → 0 ≤ b → b < 5 → ¬ (tb w (5 * a + b) ∧ tb w (5 * b + a)) := fun a b a0 a1 b0 b1 q => h.asym ((h.bit ⟨a0, a1⟩ ⟨b0, b1⟩).mp q.1) ((h.bit ⟨b0, b1⟩ ⟨a0, a1⟩).mp q.2)
  have tr : ∀ a b c : Int, 0 ≤ a → a < 5 → 0 ≤ b → b < 5 → 0 ≤ c → c < 5 → tb w (5 * a + b) → tb w (5 * b + c) → tb w (5 * a + c) := fun a b c a0 a1 b0 b1 c0 c1 q q2 => (h.2.2.2 a b c ((h.bit ⟨a0, a1⟩ ⟨b0, b1⟩).mp q) ((h.bit ⟨b0, b1⟩ ⟨c0, c1⟩).mp q2)).2.2
  have x1 := dgB_1 (w := w) (g := j) (q := i)
  have y1 := dgB_1 (w := w) (g := k) (q := j)
  have z1 := dgB_1 (w := w) (g := k) (q := i)
  have x2 := dgB_2 (as j i (by omega) (by omega) (by omega) (by omega))
  have y2 := dgB_2 (as k j (by omega) (by omega) (by omega) (by omega))
  have z2 := dgB_2 (as k i (by omega) (by omega) (by omega) (by omega))
  have r1 := tr k j i (by omega) (by omega) (by omega) (by omega) (by omega) (by omega)
  have r2 := tr i j k (by omega) (by omega) (by omega) (by omega) (by omega) (by omega)
  have r3 := tr j i k (by omega) (by omega) (by omega) (by omega) (by omega) (by omega)
  have r4 := tr k i j (by omega) (by omega) (by omega) (by omega) (by omega) (by omega)
  have r5 := tr i k j (by omega) (by omega) (by omega) (by omega) (by omega) (by omega)
  have r6 := tr j k i (by omega) (by omega) (by omega) (by omega) (by omega) (by omega)
  rw [← x1, ← y1, ← z1] at *
  rw [← x2, ← y2, ← z2] at *
  generalize dgB w j i = X at *
  generalize dgB w k j = Y at *
  generalize dgB w k i = Z at *
  rcases (show X = 0 ∨ X = 1 ∨ X = 2 by omega) with e | e | e <;> rcases (show Y = 0 ∨ Y = 1 ∨ Y = 2 by omega) with e2 | e2 | e2 <;> rcases (show Z = 0 ∨ Z = 1 ∨ Z = 2 by omega) with e3 | e3 | e3 <;> subst e <;> subst e2 <;> subst e3 <;> first
    | decide
    | (exfalso; omega)
theorem ds_ok (n : Nat) : ∀ k : Nat, n % 2 ^ (k + 1) = n % 2 ^ k + 2 ^ k * (n.testBit k).toNat := fun k => by rw [Nat.toNat_testBit, Nat.pow_succ, Nat.mod_mul]
theorem cdO_4 (w : Int) : cdO w 4 = (3 * (3 * (3 * (3 * (3 * (3 * (3 * (3 * (3 * (3 * 0 + dgB w 1 0) + dgB w 2 0) + dgB w 2 1) + dgB w 3 0) + dgB w 3 1) + dgB w 3 2) + dgB w 4 0) + dgB w 4 1) + dgB w 4 2) + dgB w 4 3) := rfl
theorem cdO_dg (w : Int) : (cdO w 4).toNat < 59049 ∧ Nat.mod (Nat.div (cdO w 4).toNat 19683) 3 = (dgB w 1 0).toNat ∧ Nat.mod (Nat.div (cdO w 4).toNat 6561) 3 = (dgB w 2 0).toNat ∧ Nat.mod (Nat.div (cdO w 4).toNat 2187) 3 = (dgB w 2 1).toNat ∧ Nat.mod (Nat.div (cdO w 4).toNat 729) 3 = (dgB w 3 0).toNat ∧ Nat.mod (Nat.div (cdO w 4).toNat 243) 3 = (dgB w 3 1).toNat ∧ Nat.mod (Nat.div (cdO w 4).toNat 81) 3 = (dgB w 3 2).toNat ∧ Nat.mod (Nat.div (cdO w 4).toNat 27) 3 = (dgB w 4 0).toNat ∧ Nat.mod (Nat.div (cdO w 4).toNat 9) 3 = (dgB w 4 1).toNat ∧ Nat.mod (Nat.div (cdO w 4).toNat 3) 3 = (dgB w 4 2).toNat ∧ Nat.mod (Nat.div (cdO w 4).toNat 1) 3 = (dgB w 4 3).toNat ∧ Nat.mod (Nat.div ((cdO w 4).toNat / 81) 243) 3 = (dgB w 1 0).toNat ∧ Nat.mod (Nat.div ((cdO w 4).toNat / 81) 81) 3 = (dgB w 2 0).toNat ∧ Nat.mod (Nat.div ((cdO w 4).toNat / 81) 27) 3 = (dgB w 2 1).toNat ∧ Nat.mod (Nat.div ((cdO w 4).toNat / 81) 9) 3 = (dgB w 3 0).toNat ∧ Nat.mod (Nat.div ((cdO w 4).toNat / 81) 3) 3 = (dgB w 3 1).toNat ∧ Nat.mod (Nat.div ((cdO w 4).toNat / 81) 1) 3 = (dgB w 3 2).toNat := by
  rw [cdO_4]
  have h10 := dgB_r (w := w) (g := 1) (q := 0)
  have h20 := dgB_r (w := w) (g := 2) (q := 0)
  have h21 := dgB_r (w := w) (g := 2) (q := 1)
  have h30 := dgB_r (w := w) (g := 3) (q := 0)
  have h31 := dgB_r (w := w) (g := 3) (q := 1)
  have h32 := dgB_r (w := w) (g := 3) (q := 2)
  have h40 := dgB_r (w := w) (g := 4) (q := 0)
  have h41 := dgB_r (w := w) (g := 4) (q := 1)
  have h42 := dgB_r (w := w) (g := 4) (q := 2)
  have h43 := dgB_r (w := w) (g := 4) (q := 3)
  generalize dgB w 1 0 = x10 at *
  generalize dgB w 2 0 = x20 at *
  generalize dgB w 2 1 = x21 at *
  generalize dgB w 3 0 = x30 at *
  generalize dgB w 3 1 = x31 at *
  generalize dgB w 3 2 = x32 at *
  generalize dgB w 4 0 = x40 at *
  generalize dgB w 4 1 = x41 at *
  generalize dgB w 4 2 = x42 at *
  generalize dgB w 4 3 = x43 at *
  refine ⟨by omega, ?_, ?_, ?_, ?_, ?_, ?_, ?_, ?_, ?_, ?_, ?_, ?_, ?_, ?_, ?_, ?_⟩
  · show ((3 * (3 * (3 * (3 * (3 * (3 * (3 * (3 * (3 * (3 * 0 + x10) + x20) + x21) + x30) + x31) + x32) + x40) + x41) + x42) + x43) : Int).toNat / 19683 % 3 = x10.toNat
    omega
  · show ((3 * (3 * (3 * (3 * (3 * (3 * (3 * (3 * (3 * (3 * 0 + x10) + x20) + x21) + x30) + x31) + x32) + x40) + x41) + x42) + x43) : Int).toNat / 6561 % 3 = x20.toNat
    omega
  · show ((3 * (3 * (3 * (3 * (3 * (3 * (3 * (3 * (3 * (3 * 0 + x10) + x20) + x21) + x30) + x31) + x32) + x40) + x41) + x42) + x43) : Int).toNat / 2187 % 3 = x21.toNat
    omega
  · show ((3 * (3 * (3 * (3 * (3 * (3 * (3 * (3 * (3 * (3 * 0 + x10) + x20) + x21) + x30) + x31) + x32) + x40) + x41) + x42) + x43) : Int).toNat / 729 % 3 = x30.toNat
    omega
  · show ((3 * (3 * (3 * (3 * (3 * (3 * (3 * (3 * (3 * (3 * 0 + x10) + x20) + x21) + x30) + x31) + x32) + x40) + x41) + x42) + x43) : Int).toNat / 243 % 3 = x31.toNat
    omega
  · show ((3 * (3 * (3 * (3 * (3 * (3 * (3 * (3 * (3 * (3 * 0 + x10) + x20) + x21) + x30) + x31) + x32) + x40) + x41) + x42) + x43) : Int).toNat / 81 % 3 = x32.toNat
    omega
  · show ((3 * (3 * (3 * (3 * (3 * (3 * (3 * (3 * (3 * (3 * 0 + x10) + x20) + x21) + x30) + x31) + x32) + x40) + x41) + x42) + x43) : Int).toNat / 27 % 3 = x40.toNat
    omega
  · show ((3 * (3 * (3 * (3 * (3 * (3 * (3 * (3 * (3 * (3 * 0 + x10) + x20) + x21) + x30) + x31) + x32) + x40) + x41) + x42) + x43) : Int).toNat / 9 % 3 = x41.toNat
    omega
  · show ((3 * (3 * (3 * (3 * (3 * (3 * (3 * (3 * (3 * (3 * 0 + x10) + x20) + x21) + x30) + x31) + x32) + x40) + x41) + x42) + x43) : Int).toNat / 3 % 3 = x42.toNat
    omega
  · show ((3 * (3 * (3 * (3 * (3 * (3 * (3 * (3 * (3 * (3 * 0 + x10) + x20) + x21) + x30) + x31) + x32) + x40) + x41) + x42) + x43) : Int).toNat / 1 % 3 = x43.toNat
    omega
  · show ((3 * (3 * (3 * (3 * (3 * (3 * (3 * (3 * (3 * (3 * 0 + x10) + x20) + x21) + x30) + x31) + x32) + x40) + x41) + x42) + x43) : Int).toNat / 81 / 243 % 3 = x10.toNat
    omega
  · show ((3 * (3 * (3 * (3 * (3 * (3 * (3 * (3 * (3 * (3 * 0 + x10) + x20) + x21) + x30) + x31) + x32) + x40) + x41) + x42) + x43) : Int).toNat / 81 / 81 % 3 = x20.toNat
    omega
  · show ((3 * (3 * (3 * (3 * (3 * (3 * (3 * (3 * (3 * (3 * 0 + x10) + x20) + x21) + x30) + x31) + x32) + x40) + x41) + x42) + x43) : Int).toNat / 81 / 27 % 3 = x21.toNat
    omega
  · show ((3 * (3 * (3 * (3 * (3 * (3 * (3 * (3 * (3 * (3 * 0 + x10) + x20) + x21) + x30) + x31) + x32) + x40) + x41) + x42) + x43) : Int).toNat / 81 / 9 % 3 = x30.toNat
    omega
  · show ((3 * (3 * (3 * (3 * (3 * (3 * (3 * (3 * (3 * (3 * 0 + x10) + x20) + x21) + x30) + x31) + x32) + x40) + x41) + x42) + x43) : Int).toNat / 81 / 3 % 3 = x31.toNat
    omega
  · show ((3 * (3 * (3 * (3 * (3 * (3 * (3 * (3 * (3 * (3 * 0 + x10) + x20) + x21) + x30) + x31) + x32) + x40) + x41) + x42) + x43) : Int).toNat / 81 / 1 % 3 = x32.toNat
    omega
theorem OW.pp {w : Int} (h : OW 5 w) : p4 ((cdO w 4).toNat / 81) = true ∧ p6 (cdO w 4).toNat = true := by
  obtain ⟨-, a10, a20, a21, a30, a31, a32, a40, a41, a42, a43, b10, b20, b21, b30, b31, b32⟩ := cdO_dg w
  unfold p4 p6
  rw [b10, b20, b21, b30, b31, b32]
  rw [a10, a20, a21, a30, a31, a32, a40, a41, a42, a43]
  simp only [Bool.and_eq_true]
  exact ⟨⟨okT_ok h (by decide) (by decide) (by decide), okT_ok h (by decide) (by decide) (by decide), okT_ok h (by decide) (by decide) (by decide), okT_ok h (by decide) (by decide) (by decide)⟩, ⟨okT_ok h (by decide) (by decide) (by decide), okT_ok h (by decide) (by decide) (by decide), okT_ok h (by decide) (by decide) (by decide), okT_ok h (by decide) (by decide) (by decide), okT_ok h (by decide) (by decide) (by decide), okT_ok h (by decide) (by decide) (by decide)⟩⟩
theorem ds_25 {n : Nat} (h : n < 2 ^ 25) : n = n % 2 ^ 0 + 2 ^ 0 * (n.testBit 0).toNat + 2 ^ 1 * (n.testBit 1).toNat + 2 ^ 2 * (n.testBit 2).toNat + 2 ^ 3 * (n.testBit 3).toNat + 2 ^ 4 * (n.testBit 4).toNat + 2 ^ 5 * (n.testBit 5).toNat + 2 ^ 6 * (n.testBit 6).toNat + 2 ^ 7 * (n.testBit 7).toNat + 2 ^ 8 * (n.testBit 8).toNat + 2 ^ 9 * (n.testBit 9).toNat + 2 ^ 10 * (n.testBit 10).toNat + 2 ^ 11 * (n.testBit 11).toNat + 2 ^ 12 * (n.testBit 12).toNat + 2 ^ 13 * (n.testBit 13).toNat + 2 ^ 14 * (n.testBit 14).toNat + 2 ^ 15 * (n.testBit 15).toNat + 2 ^ 16 * (n.testBit 16).toNat + 2 ^ 17 * (n.testBit 17).toNat + 2 ^ 18 * (n.testBit 18).toNat + 2 ^ 19 * (n.testBit 19).toNat + 2 ^ 20 * (n.testBit 20).toNat + 2 ^ 21 * (n.testBit 21).toNat + 2 ^ 22 * (n.testBit 22).toNat + 2 ^ 23 * (n.testBit 23).toNat + 2 ^ 24 * (n.testBit 24).toNat := by
  have e0 : n % 2 ^ 1 = n % 2 ^ 0 + 2 ^ 0 * (n.testBit 0).toNat := ds_ok n 0
  have e1 : n % 2 ^ 2 = n % 2 ^ 1 + 2 ^ 1 * (n.testBit 1).toNat := ds_ok n 1
  have e2 : n % 2 ^ 3 = n % 2 ^ 2 + 2 ^ 2 * (n.testBit 2).toNat := ds_ok n 2
  have e3 : n % 2 ^ 4 = n % 2 ^ 3 + 2 ^ 3 * (n.testBit 3).toNat := ds_ok n 3
  have e4 : n % 2 ^ 5 = n % 2 ^ 4 + 2 ^ 4 * (n.testBit 4).toNat := ds_ok n 4
  have e5 : n % 2 ^ 6 = n % 2 ^ 5 + 2 ^ 5 * (n.testBit 5).toNat := ds_ok n 5
  have e6 : n % 2 ^ 7 = n % 2 ^ 6 + 2 ^ 6 * (n.testBit 6).toNat := ds_ok n 6
  have e7 : n % 2 ^ 8 = n % 2 ^ 7 + 2 ^ 7 * (n.testBit 7).toNat := ds_ok n 7
  have e8 : n % 2 ^ 9 = n % 2 ^ 8 + 2 ^ 8 * (n.testBit 8).toNat := ds_ok n 8
  have e9 : n % 2 ^ 10 = n % 2 ^ 9 + 2 ^ 9 * (n.testBit 9).toNat := ds_ok n 9
  have e10 : n % 2 ^ 11 = n % 2 ^ 10 + 2 ^ 10 * (n.testBit 10).toNat := ds_ok n 10
  have e11 : n % 2 ^ 12 = n % 2 ^ 11 + 2 ^ 11 * (n.testBit 11).toNat := ds_ok n 11
  have e12 : n % 2 ^ 13 = n % 2 ^ 12 + 2 ^ 12 * (n.testBit 12).toNat := ds_ok n 12
  have e13 : n % 2 ^ 14 = n % 2 ^ 13 + 2 ^ 13 * (n.testBit 13).toNat := ds_ok n 13
  have e14 : n % 2 ^ 15 = n % 2 ^ 14 + 2 ^ 14 * (n.testBit 14).toNat := ds_ok n 14
  have e15 : n % 2 ^ 16 = n % 2 ^ 15 + 2 ^ 15 * (n.testBit 15).toNat := ds_ok n 15
  have e16 : n % 2 ^ 17 = n % 2 ^ 16 + 2 ^ 16 * (n.testBit 16).toNat := ds_ok n 16
  have e17 : n % 2 ^ 18 = n % 2 ^ 17 + 2 ^ 17 * (n.testBit 17).toNat := ds_ok n 17
  have e18 : n % 2 ^ 19 = n % 2 ^ 18 + 2 ^ 18 * (n.testBit 18).toNat := ds_ok n 18
  have e19 : n % 2 ^ 20 = n % 2 ^ 19 + 2 ^ 19 * (n.testBit 19).toNat := ds_ok n 19
  have e20 : n % 2 ^ 21 = n % 2 ^ 20 + 2 ^ 20 * (n.testBit 20).toNat := ds_ok n 20
  have e21 : n % 2 ^ 22 = n % 2 ^ 21 + 2 ^ 21 * (n.testBit 21).toNat := ds_ok n 21
  have e22 : n % 2 ^ 23 = n % 2 ^ 22 + 2 ^ 22 * (n.testBit 22).toNat := ds_ok n 22
  have e23 : n % 2 ^ 24 = n % 2 ^ 23 + 2 ^ 23 * (n.testBit 23).toNat := ds_ok n 23
  have e24 : n % 2 ^ 25 = n % 2 ^ 24 + 2 ^ 24 * (n.testBit 24).toNat := ds_ok n 24
  exact (Nat.mod_eq_of_lt h).symm.trans (by rw [e24, e23, e22, e21, e20, e19, e18, e17, e16, e15, e14, e13, e12, e11, e10, e9, e8, e7, e6, e5, e4, e3, e2, e1, e0])
theorem b1_v {w g q : Int} (K J : Nat) (hg : 0 ≤ g ∧ g < 5) (hq : 0 ≤ q ∧ q < g) (h : OW 5 w) : b1 (dgB w g q).toNat K J = K * (w.toNat.testBit (5 * g + q).toNat).toNat + J * (w.toNat.testBit (5 * q + g).toNat).toNat := by
  have as : ¬ (tb w (5 * g + q) ∧ tb w (5 * q + g)) := fun z => h.asym ((h.bit (by omega) (by omega)).mp z.1) ((h.bit (by omega) (by omega)).mp z.2)
  have x1 := dgB_1 (w := w) (g := g) (q := q)
  have x2 := dgB_2 as
  have x := dgB_r (w := w) (g := g) (q := q)
  rw [tb_nn h.1.1] at x1 x2 as
  rw [tb_nn h.1.1] at as
  have k1 : (5 * g + q).toNat < 32 := by omega
  have k2 : (5 * q + g).toNat < 32 := by omega
  simp only [k1, k2, true_and] at x1 x2 as
  generalize dgB w g q = X at *
  generalize w.toNat.testBit (5 * g + q).toNat = A at *
  generalize w.toNat.testBit (5 * q + g).toNat = C at *
  rcases (show X = 0 ∨ X = 1 ∨ X = 2 by omega) with e | e | e <;> subst e <;> cases A <;> cases C <;> first
    | (exfalso; simp at x1; done)
    | (exfalso; simp at x2; done)
    | (exfalso; simp at as; done)
    | (show 0 = K * 0 + J * 0; simp; done)
    | (show K = K * 1 + J * 0; simp; done)
    | (show J = K * 0 + J * 1; simp; done)
theorem OW.wd {w : Int} (h : OW 5 w) : (wdN (cdO w 4).toNat : Int) = w := by
  obtain ⟨-, a10, a20, a21, a30, a31, a32, a40, a41, a42, a43, -⟩ := cdO_dg w
  have e : wdN (cdO w 4).toNat = w.toNat := by
    unfold wdN
    rw [a10, a20, a21, a30, a31, a32, a40, a41, a42, a43]
    rw [b1_v (w := w) (g := 1) (q := 0) 32 2 (by decide) (by decide) h, b1_v (w := w) (g := 2) (q := 0) 1024 4 (by decide) (by decide) h, b1_v (w := w) (g := 2) (q := 1) 2048 128 (by decide) (by decide) h, b1_v (w := w) (g := 3) (q := 0) 32768 8 (by decide) (by decide) h, b1_v (w := w) (g := 3) (q := 1) 65536 256 (by decide) (by decide) h, b1_v (w := w) (g := 3) (q := 2) 131072 8192 (by decide) (by decide) h, b1_v (w := w) (g := 4) (q := 0) 1048576 16 (by decide) (by decide) h, b1_v (w := w) (g := 4) (q := 1) 2097152 512 (by decide) (by decide) h, b1_v (w := w) (g := 4) (q := 2) 4194304 16384 (by decide) (by decide) h, b1_v (w := w) (g := 4) (q := 3) 8388608 524288 (by decide) (by decide) h]
    have hd : ∀ k : Int, 0 ≤ k → k < 5 → w.toNat.testBit (6 * k).toNat = false := fun k k0 k1 => by
      cases hb : w.toNat.testBit (6 * k).toNat with
      | false => rfl
      | true =>
        have : tb w (5 * k + k) := (tb_nn h.1.1).mpr ⟨by omega, by rw [show (5 * k + k).toNat = (6 * k).toNat by omega]; exact hb⟩
        exact absurd ⟨⟨k0, k1⟩, ⟨k0, k1⟩, this⟩ (h.2.2.1 k)
    have n0 : w.toNat.testBit 0 = false := hd 0 (by decide) (by decide)
    have n1 : w.toNat.testBit 6 = false := hd 1 (by decide) (by decide)
    have n2 : w.toNat.testBit 12 = false := hd 2 (by decide) (by decide)
    have n3 : w.toNat.testBit 18 = false := hd 3 (by decide) (by decide)
    have n4 : w.toNat.testBit 24 = false := hd 4 (by decide) (by decide)
    have e2 := ds_25 h.1.2
    rw [n0, n1, n2, n3, n4] at e2
    refine Eq.trans ?_ e2.symm
    simp only [show ((5 : Int) * 1 + 0).toNat = 5 from rfl, show ((5 : Int) * 0 + 1).toNat = 1 from rfl, show ((5 : Int) * 2 + 0).toNat = 10 from rfl, show ((5 : Int) * 0 + 2).toNat = 2 from rfl, show ((5 : Int) * 2 + 1).toNat = 11 from rfl, show ((5 : Int) * 1 + 2).toNat = 7 from rfl, show ((5 : Int) * 3 + 0).toNat = 15 from rfl, show ((5 : Int) * 0 + 3).toNat = 3 from rfl, show ((5 : Int) * 3 + 1).toNat = 16 from rfl, show ((5 : Int) * 1 + 3).toNat = 8 from rfl, show ((5 : Int) * 3 + 2).toNat = 17 from rfl, show ((5 : Int) * 2 + 3).toNat = 13 from rfl, show ((5 : Int) * 4 + 0).toNat = 20 from rfl, show ((5 : Int) * 0 + 4).toNat = 4 from rfl, show ((5 : Int) * 4 + 1).toNat = 21 from rfl, show ((5 : Int) * 1 + 4).toNat = 9 from rfl, show ((5 : Int) * 4 + 2).toNat = 22 from rfl, show ((5 : Int) * 2 + 4).toNat = 14 from rfl, show ((5 : Int) * 4 + 3).toNat = 23 from rfl, show ((5 : Int) * 3 + 4).toNat = 19 from rfl, Bool.toNat_false, Nat.mul_zero, Nat.add_zero, Nat.zero_add, Nat.add_eq]
    omega
  rw [e]
  have := h.1.1
  omega
theorem b1_n {w g q : Int} (hg : 0 ≤ g ∧ g < 5) (hq : 0 ≤ q ∧ q < g) (h : OW 5 w) : ((b1 (dgB w g q).toNat 1 1 : Nat) : Int) = b2i (RB w g q ∨ RB w q g) := by
  have as : ¬ (tb w (5 * g + q) ∧ tb w (5 * q + g)) := fun z => h.asym ((h.bit (by omega) (by omega)).mp z.1) ((h.bit (by omega) (by omega)).mp z.2)
  have x1 := (dgB_1 (w := w) (g := g) (q := q)).trans (h.bit (by omega) (by omega))
  have x2 := (dgB_2 as).trans (h.bit (by omega) (by omega))
  have x := dgB_r (w := w) (g := g) (q := q)
  rw [← x1, ← x2]
  generalize dgB w g q = X at *
  rcases (show X = 0 ∨ X = 1 ∨ X = 2 by omega) with e | e | e <;> subst e
  · rw [b2i_f (by omega)]; rfl
  · rw [b2i_t (by omega)]; rfl
  · rw [b2i_t (by omega)]; rfl
theorem OW.bc {w : Int} (h : OW 5 w) : bcF w = b2i (RB w 1 0 ∨ RB w 0 1) + b2i (RB w 2 0 ∨ RB w 0 2) + b2i (RB w 2 1 ∨ RB w 1 2) + b2i (RB w 3 0 ∨ RB w 0 3) + b2i (RB w 3 1 ∨ RB w 1 3) + b2i (RB w 3 2 ∨ RB w 2 3) + b2i (RB w 4 0 ∨ RB w 0 4) + b2i (RB w 4 1 ∨ RB w 1 4) + b2i (RB w 4 2 ∨ RB w 2 4) + b2i (RB w 4 3 ∨ RB w 3 4) := by
  obtain ⟨lt, a10, a20, a21, a30, a31, a32, a40, a41, a42, a43, -⟩ := cdO_dg w
  have e := (gB_ok lt h.pp.1 h.pp.2).2
  rw [h.wd] at e
  rw [e]
  unfold nzN
  rw [a10, a20, a21, a30, a31, a32, a40, a41, a42, a43]
  have h10 := b1_n (w := w) (g := 1) (q := 0) (by decide) (by decide) h
  have h20 := b1_n (w := w) (g := 2) (q := 0) (by decide) (by decide) h
  have h21 := b1_n (w := w) (g := 2) (q := 1) (by decide) (by decide) h
  have h30 := b1_n (w := w) (g := 3) (q := 0) (by decide) (by decide) h
  have h31 := b1_n (w := w) (g := 3) (q := 1) (by decide) (by decide) h
  have h32 := b1_n (w := w) (g := 3) (q := 2) (by decide) (by decide) h
  have h40 := b1_n (w := w) (g := 4) (q := 0) (by decide) (by decide) h
  have h41 := b1_n (w := w) (g := 4) (q := 1) (by decide) (by decide) h
  have h42 := b1_n (w := w) (g := 4) (q := 2) (by decide) (by decide) h
  have h43 := b1_n (w := w) (g := 4) (q := 3) (by decide) (by decide) h
  generalize b1 (dgB w 1 0).toNat 1 1 = y10 at *
  generalize b1 (dgB w 2 0).toNat 1 1 = y20 at *
  generalize b1 (dgB w 2 1).toNat 1 1 = y21 at *
  generalize b1 (dgB w 3 0).toNat 1 1 = y30 at *
  generalize b1 (dgB w 3 1).toNat 1 1 = y31 at *
  generalize b1 (dgB w 3 2).toNat 1 1 = y32 at *
  generalize b1 (dgB w 4 0).toNat 1 1 = y40 at *
  generalize b1 (dgB w 4 1).toNat 1 1 = y41 at *
  generalize b1 (dgB w 4 2).toNat 1 1 = y42 at *
  generalize b1 (dgB w 4 3).toNat 1 1 = y43 at *
  simp only [Nat.add_eq, Int.natCast_add]
  omega
theorem OW.whI {G w : Int} (hG : 1 ≤ G ∧ G ≤ 5) : WhR G (RB w) ↔ ((1 < G → b2i (RB w 1 0 ∨ RB w 0 1) = 1) ∧ (2 < G → b2i (RB w 2 0 ∨ RB w 0 2) = 1) ∧ (2 < G → b2i (RB w 2 1 ∨ RB w 1 2) = 1) ∧ (3 < G → b2i (RB w 3 0 ∨ RB w 0 3) = 1) ∧ (3 < G → b2i (RB w 3 1 ∨ RB w 1 3) = 1) ∧ (3 < G → b2i (RB w 3 2 ∨ RB w 2 3) = 1) ∧ (4 < G → b2i (RB w 4 0 ∨ RB w 0 4) = 1) ∧ (4 < G → b2i (RB w 4 1 ∨ RB w 1 4) = 1) ∧ (4 < G → b2i (RB w 4 2 ∨ RB w 2 4) = 1) ∧ (4 < G → b2i (RB w 4 3 ∨ RB w 3 4) = 1)) := by
  constructor
  · intro k
    exact ⟨fun e => b2i_t (k 1 0 (by decide) (by omega) (by decide) (by omega) (by decide)), fun e => b2i_t (k 2 0 (by decide) (by omega) (by decide) (by omega) (by decide)), fun e => b2i_t (k 2 1 (by decide) (by omega) (by decide) (by omega) (by decide)), fun e => b2i_t (k 3 0 (by decide) (by omega) (by decide) (by omega) (by decide)), fun e => b2i_t (k 3 1 (by decide) (by omega) (by decide) (by omega) (by decide)), fun e => b2i_t (k 3 2 (by decide) (by omega) (by decide) (by omega) (by decide)), fun e => b2i_t (k 4 0 (by decide) (by omega) (by decide) (by omega) (by decide)), fun e => b2i_t (k 4 1 (by decide) (by omega) (by decide) (by omega) (by decide)), fun e => b2i_t (k 4 2 (by decide) (by omega) (by decide) (by omega) (by decide)), fun e => b2i_t (k 4 3 (by decide) (by omega) (by decide) (by omega) (by decide))⟩
  · rintro ⟨k10, k20, k21, k30, k31, k32, k40, k41, k42, k43⟩
    have kk : ∀ g q : Int, 0 ≤ q → q < g → g < G → (RB w g q ∨ RB w q g) := fun g q q0 q1 q2 => by
      rcases (show (g = 1 ∧ q = 0) ∨ (g = 2 ∧ q = 0) ∨ (g = 2 ∧ q = 1) ∨ (g = 3 ∧ q = 0) ∨ (g = 3 ∧ q = 1) ∨ (g = 3 ∧ q = 2) ∨ (g = 4 ∧ q = 0) ∨ (g = 4 ∧ q = 1) ∨ (g = 4 ∧ q = 2) ∨ (g = 4 ∧ q = 3) by omega) with ⟨e, e2⟩ | ⟨e, e2⟩ | ⟨e, e2⟩ | ⟨e, e2⟩ | ⟨e, e2⟩ | ⟨e, e2⟩ | ⟨e, e2⟩ | ⟨e, e2⟩ | ⟨e, e2⟩ | ⟨e, e2⟩
      · subst e; subst e2; exact b2i_1.mp (k10 (by omega))
      · subst e; subst e2; exact b2i_1.mp (k20 (by omega))
      · subst e; subst e2; exact b2i_1.mp (k21 (by omega))
      · subst e; subst e2; exact b2i_1.mp (k30 (by omega))
      · subst e; subst e2; exact b2i_1.mp (k31 (by omega))
      · subst e; subst e2; exact b2i_1.mp (k32 (by omega))
      · subst e; subst e2; exact b2i_1.mp (k40 (by omega))
      · subst e; subst e2; exact b2i_1.mp (k41 (by omega))
      · subst e; subst e2; exact b2i_1.mp (k42 (by omega))
      · subst e; subst e2; exact b2i_1.mp (k43 (by omega))
    intro a b a0 a1 b0 b1 ne
    rcases (show b < a ∨ a < b by omega) with l | l
    · exact kk a b b0 l a1
    · exact (kk b a a0 l b1).symm
theorem OW.whole {G w : Int} (hG : 1 ≤ G ∧ G ≤ 5) (h : OW G w) : G * (G - 1) / 2 ≤ bcF w ↔ WhR G (RB w) := by
  rw [(h.five hG.2).bc, OW.whI hG]
  have r10 := b2i_01 (p := RB w 1 0 ∨ RB w 0 1)
  have r20 := b2i_01 (p := RB w 2 0 ∨ RB w 0 2)
  have r21 := b2i_01 (p := RB w 2 1 ∨ RB w 1 2)
  have r30 := b2i_01 (p := RB w 3 0 ∨ RB w 0 3)
  have r31 := b2i_01 (p := RB w 3 1 ∨ RB w 1 3)
  have r32 := b2i_01 (p := RB w 3 2 ∨ RB w 2 3)
  have r40 := b2i_01 (p := RB w 4 0 ∨ RB w 0 4)
  have r41 := b2i_01 (p := RB w 4 1 ∨ RB w 1 4)
  have r42 := b2i_01 (p := RB w 4 2 ∨ RB w 2 4)
  have r43 := b2i_01 (p := RB w 4 3 ∨ RB w 3 4)
  have z10 : G ≤ 1 → b2i (RB w 1 0 ∨ RB w 0 1) = 0 := fun e => b2i_f (fun z => by rcases z with z | z <;> (have := h.2.1 _ _ z; omega))
  have z20 : G ≤ 2 → b2i (RB w 2 0 ∨ RB w 0 2) = 0 := fun e => b2i_f (fun z => by rcases z with z | z <;> (have := h.2.1 _ _ z; omega))
  have z21 : G ≤ 2 → b2i (RB w 2 1 ∨ RB w 1 2) = 0 := fun e => b2i_f (fun z => by rcases z with z | z <;> (have := h.2.1 _ _ z; omega))
  have z30 : G ≤ 3 → b2i (RB w 3 0 ∨ RB w 0 3) = 0 := fun e => b2i_f (fun z => by rcases z with z | z <;> (have := h.2.1 _ _ z; omega))
  have z31 : G ≤ 3 → b2i (RB w 3 1 ∨ RB w 1 3) = 0 := fun e => b2i_f (fun z => by rcases z with z | z <;> (have := h.2.1 _ _ z; omega))
  have z32 : G ≤ 3 → b2i (RB w 3 2 ∨ RB w 2 3) = 0 := fun e => b2i_f (fun z => by rcases z with z | z <;> (have := h.2.1 _ _ z; omega))
  have z40 : G ≤ 4 → b2i (RB w 4 0 ∨ RB w 0 4) = 0 := fun e => b2i_f (fun z => by rcases z with z | z <;> (have := h.2.1 _ _ z; omega))
  have z41 : G ≤ 4 → b2i (RB w 4 1 ∨ RB w 1 4) = 0 := fun e => b2i_f (fun z => by rcases z with z | z <;> (have := h.2.1 _ _ z; omega))
  have z42 : G ≤ 4 → b2i (RB w 4 2 ∨ RB w 2 4) = 0 := fun e => b2i_f (fun z => by rcases z with z | z <;> (have := h.2.1 _ _ z; omega))
  have z43 : G ≤ 4 → b2i (RB w 4 3 ∨ RB w 3 4) = 0 := fun e => b2i_f (fun z => by rcases z with z | z <;> (have := h.2.1 _ _ z; omega))
  generalize b2i (RB w 1 0 ∨ RB w 0 1) = x10 at *
  generalize b2i (RB w 2 0 ∨ RB w 0 2) = x20 at *
  generalize b2i (RB w 2 1 ∨ RB w 1 2) = x21 at *
  generalize b2i (RB w 3 0 ∨ RB w 0 3) = x30 at *
  generalize b2i (RB w 3 1 ∨ RB w 1 3) = x31 at *
  generalize b2i (RB w 3 2 ∨ RB w 2 3) = x32 at *
  generalize b2i (RB w 4 0 ∨ RB w 0 4) = x40 at *
  generalize b2i (RB w 4 1 ∨ RB w 1 4) = x41 at *
  generalize b2i (RB w 4 2 ∨ RB w 2 4) = x42 at *
  generalize b2i (RB w 4 3 ∨ RB w 3 4) = x43 at *
  clear h
  rcases (show G = 1 ∨ G = 2 ∨ G = 3 ∨ G = 4 ∨ G = 5 by omega) with e | e | e | e | e
  · subst e
    have e10 := z10 (by decide)
    have e20 := z20 (by decide)
    have e21 := z21 (by decide)
    have e30 := z30 (by decide)
    have e31 := z31 (by decide)
    have e32 := z32 (by decide)
    have e40 := z40 (by decide)
    have e41 := z41 (by decide)
    have e42 := z42 (by decide)
    have e43 := z43 (by decide)
    clear z10 z20 z21 z30 z31 z32 z40 z41 z42 z43
    constructor
    · intro k
      exact ⟨fun e => absurd e (by decide), fun e => absurd e (by decide), fun e => absurd e (by decide), fun e => absurd e (by decide), fun e => absurd e (by decide), fun e => absurd e (by decide), fun e => absurd e (by decide), fun e => absurd e (by decide), fun e => absurd e (by decide), fun e => absurd e (by decide)⟩
    · rintro ⟨k10, k20, k21, k30, k31, k32, k40, k41, k42, k43⟩
      clear k10 k20 k21 k30 k31 k32 k40 k41 k42 k43
      omega
  · subst e
    have e20 := z20 (by decide)
    have e21 := z21 (by decide)
    have e30 := z30 (by decide)
    have e31 := z31 (by decide)
    have e32 := z32 (by decide)
    have e40 := z40 (by decide)
    have e41 := z41 (by decide)
    have e42 := z42 (by decide)
    have e43 := z43 (by decide)
    clear z10 z20 z21 z30 z31 z32 z40 z41 z42 z43
    constructor
    · intro k
      exact ⟨fun _ => by omega, fun e => absurd e (by decide), fun e => absurd e (by decide), fun e => absurd e (by decide), fun e => absurd e (by decide), fun e => absurd e (by decide), fun e => absurd e (by decide), fun e => absurd e (by decide), fun e => absurd e (by decide), fun e => absurd e (by decide)⟩
    · rintro ⟨k10, k20, k21, k30, k31, k32, k40, k41, k42, k43⟩
      have f10 := k10 (by decide)
      clear k10 k20 k21 k30 k31 k32 k40 k41 k42 k43
      omega
  · subst e
    have e30 := z30 (by decide)
    have e31 := z31 (by decide)
    have e32 := z32 (by decide)
    have e40 := z40 (by decide)
    have e41 := z41 (by decide)
    have e42 := z42 (by decide)
    have e43 := z43 (by decide)
    clear z10 z20 z21 z30 z31 z32 z40 z41 z42 z43
    constructor
    · intro k
      exact ⟨fun _ => by omega, fun _ => by omega, fun _ => by omega, fun e => absurd e (by decide), fun e => absurd e (by decide), fun e => absurd e (by decide), fun e => absurd e (by decide), fun e => absurd e (by decide), fun e => absurd e (by decide), fun e => absurd e (by decide)⟩
    · rintro ⟨k10, k20, k21, k30, k31, k32, k40, k41, k42, k43⟩
      have f10 := k10 (by decide)
      have f20 := k20 (by decide)
      have f21 := k21 (by decide)
      clear k10 k20 k21 k30 k31 k32 k40 k41 k42 k43
      omega
  · subst e
    have e40 := z40 (by decide)
    have e41 := z41 (by decide)
    have e42 := z42 (by decide)
    have e43 := z43 (by decide)
    clear z10 z20 z21 z30 z31 z32 z40 z41 z42 z43
    constructor
    · intro k
      exact ⟨fun _ => by omega, fun _ => by omega, fun _ => by omega, fun _ => by omega, fun _ => by omega, fun _ => by omega, fun e => absurd e (by decide), fun e => absurd e (by decide), fun e => absurd e (by decide), fun e => absurd e (by decide)⟩
    · rintro ⟨k10, k20, k21, k30, k31, k32, k40, k41, k42, k43⟩
      have f10 := k10 (by decide)
      have f20 := k20 (by decide)
      have f21 := k21 (by decide)
      have f30 := k30 (by decide)
      have f31 := k31 (by decide)
      have f32 := k32 (by decide)
      clear k10 k20 k21 k30 k31 k32 k40 k41 k42 k43
      omega
  · subst e
    clear z10 z20 z21 z30 z31 z32 z40 z41 z42 z43
    constructor
    · intro k
      exact ⟨fun _ => by omega, fun _ => by omega, fun _ => by omega, fun _ => by omega, fun _ => by omega, fun _ => by omega, fun _ => by omega, fun _ => by omega, fun _ => by omega, fun _ => by omega⟩
    · rintro ⟨k10, k20, k21, k30, k31, k32, k40, k41, k42, k43⟩
      have f10 := k10 (by decide)
      have f20 := k20 (by decide)
      have f21 := k21 (by decide)
      have f30 := k30 (by decide)
      have f31 := k31 (by decide)
      have f32 := k32 (by decide)
      have f40 := k40 (by decide)
      have f41 := k41 (by decide)
      have f42 := k42 (by decide)
      have f43 := k43 (by decide)
      clear k10 k20 k21 k30 k31 k32 k40 k41 k42 k43
      omega
/-- a rank of each order -/
noncomputable def rkW (w : Int) : Nat := rkC (cdO w 4).toNat
theorem rkW_lt {G w : Int} (hG : G ≤ 5) (h : OW G w) : rkW w < 4333 := by
  have h5 := h.five hG
  have := gB_ok (cdO_dg w).1 h5.pp.1 h5.pp.2
  show rkC (cdO w 4).toNat < 4333
  exact rkC_lt (cdO_dg w).1 this.1
theorem rkW_inj {G w w' : Int} (hG : G ≤ 5) (h : OW G w) (h' : OW G w') (e : rkW w = rkW w') : w = w' := by
  have h5 := h.five hG
  have h5' := h'.five hG
  have q1 := gB_ok (cdO_dg w).1 h5.pp.1 h5.pp.2
  have q2 := gB_ok (cdO_dg w').1 h5'.pp.1 h5'.pp.2
  have := rkC_inj q1.1 q2.1 e
  have n1 := (cdO_r (w := w) 4).1
  have n2 := (cdO_r (w := w') 4).1
  exact cdO_un (G := 5) (by decide) h5 h5' (show cdO w 4 = cdO w' 4 by omega)
theorem php : ∀ (m n : Nat) (f : Nat → Nat), (∀ i, i < n → f i < m) → (∀ i j, i < n → j < n → f i = f j → i = j) → n ≤ m
  | 0, n, f, h, _ => Nat.le_of_not_lt (fun q => absurd (h 0 q) (Nat.not_lt_zero _))
  | m + 1, 0, _, _, _ => Nat.zero_le _
  | m + 1, n + 1, f, h, hi => by
    refine Nat.succ_le_succ (php m n (fun i => if f i = m then f n else f i) (fun i hn => ?_) (fun i j hn hn2 e => ?_))
    · have h1 := h i (by omega)
      have h2 := h n (by omega)
      show (if f i = m then f n else f i) < m
      by_cases q : f i = m
      · rw [if_pos q]
        have : f n ≠ m := fun z => absurd (hi i n (by omega) (by omega) (q.trans z.symm)) (by omega)
        omega
      · rw [if_neg q]; omega
    · have e : (if f i = m then f n else f i) = if f j = m then f n else f j := e
      by_cases q : f i = m <;> by_cases q2 : f j = m
      · exact hi i j (by omega) (by omega) (q.trans q2.symm)
      · rw [if_pos q, if_neg q2] at e
        exact absurd (hi n j (by omega) (by omega) e) (by omega)
      · rw [if_neg q, if_pos q2] at e
        exact absurd (hi i n (by omega) (by omega) e) (by omega)
      · rw [if_neg q, if_neg q2] at e
        exact hi i j (by omega) (by omega) e
/-- so many stands there are at most -/
theorem std_le {G : Int} {n : Nat} {K Y : Int → Int} (hG : G ≤ 5) (h : ∀ i : Int, 0 ≤ i → i < n → OW G (K i) ∧ 0 ≤ Y i ∧ Y i ≤ 5) (hi : ∀ i j : Int, 0 ≤ i → i < n → 0 ≤ j → j < n → K i = K j → Y i = Y j → i = j) : n ≤ 25998 := by
  refine php 25998 n (fun i => 6 * rkW (K (i : Int)) + (Y (i : Int)).toNat) (fun i hn => ?_) (fun i j hn hn2 e => ?_)
  · obtain ⟨h1, h2⟩ := h (i : Int) (by omega) (by omega)
    have := rkW_lt hG h1
    show 6 * rkW (K (i : Int)) + (Y (i : Int)).toNat < 25998
    omega
  · obtain ⟨h1, h2⟩ := h (i : Int) (by omega) (by omega)
    obtain ⟨h3, h4⟩ := h (j : Int) (by omega) (by omega)
    have e : 6 * rkW (K (i : Int)) + (Y (i : Int)).toNat = 6 * rkW (K (j : Int)) + (Y (j : Int)).toNat := e
    have := hi i j (by omega) (by omega) (by omega) (by omega) (rkW_inj hG h1 h3 (by omega)) (by omega)
    omega
