/-! the planner: costs of all groups that may lie there, by recursion -/
theorem cnt_sub {p q : Int → Prop} : ∀ n : Nat, (∀ i : Int, 0 ≤ i → i < n → p i → q i) → cntP p n ≤ cntP q n
  | 0, _ => Int.le_refl _
  | n + 1, h => by
    have h1 := cnt_sub n (fun i h0 h1 => h i h0 (by omega))
    show cntP p n + b2i (p (n : Int)) ≤ cntP q n + b2i (q (n : Int))
    by_cases e : p (n : Int)
    · rw [b2i_t e, b2i_t (h n (by omega) (by omega) e)]; omega
    · rw [b2i_f e]
      rcases b2i_01 (p := q (n : Int)) with z | z <;> omega
theorem cnt_sub1 {p q : Int → Prop} {x : Int} : ∀ n : Nat, (∀ i : Int, 0 ≤ i → i < n → p i → q i) → 0 ≤ x → x < n → q x → ¬ p x → cntP p n + 1 ≤ cntP q n
  | 0, _, _, _, _, _ => by omega
  | n + 1, h, x0, x1, hq, hp => by
    show cntP p n + b2i (p (n : Int)) + 1 ≤ cntP q n + b2i (q (n : Int))
    by_cases e : x = (n : Int)
    · have h1 := cnt_sub n (fun i h0 h1 => h i h0 (by omega))
      rw [e] at hq hp
      rw [b2i_t hq, b2i_f hp]; omega
    · have h1 := cnt_sub1 n (fun i h0 h1 => h i h0 (by omega)) x0 (by omega) hq hp
      by_cases e : p (n : Int)
      · rw [b2i_t e, b2i_t (h n (by omega) (by omega) e)]; omega
      · rw [b2i_f e]
        rcases b2i_01 (p := q (n : Int)) with z | z <;> omega
theorem cnt_ful {p : Int → Prop} {n : Nat} (h : (n : Int) ≤ cntP p n) (x : Int) (x0 : 0 ≤ x) (x1 : x < n) : p x := by
  refine Classical.not_not.mp fun hp => ?_
  have h1 := cnt_sub1 (p := p) (q := fun _ => True) n (fun _ _ _ _ => trivial) x0 x1 trivial hp
  have h2 := (cntP_nn (p := fun _ => True) n).2
  omega
/-- the costs, four bits each -/
def Pk (n P : Int) (f : Int → Nat) : Prop := W20 P ∧ ∀ y : Int, 0 ≤ y → y < n → nib P y = (f y : Int)
/-- what is told at once is in P -/
def Tld (n w P : Int) : Prop := W20 P ∧ (∀ y : Int, 0 ≤ y → y < n → (vl n (RB w) y : Int) ≤ nib P y) ∧ ∀ y g : Int, 0 ≤ y → y < n → 0 ≤ g → g < n → y ≠ g → OpR n (RB w) y g → nib P y ≤ (sgv n (RB w) y g : Int)
/-- detours over what was told (Q), at lying i, group j -/
def RD (n w Q i j P : Int) : Prop := W20 P ∧ (∀ y : Int, 0 ≤ y → y < n → (vl n (RB w) y : Int) ≤ nib P y ∧ nib P y ≤ nib Q y) ∧ ∀ y g : Int, 0 ≤ y → y < n → 0 ≤ g → g < n → y ≠ g → ¬ OpR n (RB w) y g → (y < i ∨ (y = i ∧ g < j)) → nib P y ≤ 1 + nib Q g
theorem RD_0 {n w Q : Int} (h : Tld n w Q) : RD n w Q 0 0 Q := ⟨h.1, fun y y0 y1 => ⟨h.2.1 y y0 y1, Int.le_refl _⟩, fun y g y0 y1 g0 g1 _ _ q => by omega⟩
theorem RD_next {n w Q i P : Int} (h : RD n w Q i n P) : RD n w Q (i + 1) 0 P := ⟨h.1, h.2.1, fun y g y0 y1 g0 g1 ne hn q => h.2.2 y g y0 y1 g0 g1 ne hn (by omega)⟩
theorem RD_skip {n w Q i j P : Int} (h : RD n w Q i j P) (hs : j = i ∨ OpR n (RB w) i j) : RD n w Q i (j + 1) P := ⟨h.1, h.2.1, fun y g y0 y1 g0 g1 ne hn q => by
  by_cases e : y = i ∧ g = j
  · obtain ⟨rfl, rfl⟩ := e
    rcases hs with z | z
    · exact absurd z.symm ne
    · exact absurd z hn
  · exact h.2.2 y g y0 y1 g0 g1 ne hn (by omega)⟩
theorem RD_less {n w Q i j P z : Int} (hn : 1 ≤ n ∧ n ≤ 5) (hw : OW n w) (hT : Tld n w Q) (h : RD n w Q i j P) (hi : 0 ≤ i ∧ i < n) (hj : 0 ≤ j ∧ j < n) (ne : j ≠ i) (ho : ¬ OpR n (RB w) i j) (hz : W20 z) (h1 : nib z i = min (nib P i) (1 + nib Q j)) (h2 : ∀ y : Int, 0 ≤ y → y < 5 → y ≠ i → nib z y = nib P y) : RD n w Q i (j + 1) z := by
  have hv := vl_sgv hn hw.2 hj ne
  rw [sgv_n ho] at hv
  have a1 := h.2.1 i hi.1 hi.2
  have a2 := hT.2.1 j hj.1 hj.2
  have hle : ∀ y : Int, 0 ≤ y → y < n → nib z y ≤ nib P y := fun y y0 y1 => by
    by_cases e : y = i
    · rw [e, h1]; omega
    · rw [h2 y y0 (by omega) e]; omega
  refine ⟨hz, fun y y0 y1 => ?_, fun y g y0 y1 g0 g1 ne2 hn2 q => ?_⟩
  · by_cases e : y = i
    · rw [e, h1]; omega
    · rw [h2 y y0 (by omega) e]; exact h.2.1 y y0 y1
  · by_cases e : y = i ∧ g = j
    · obtain ⟨rfl, rfl⟩ := e
      rw [h1]; omega
    · have := h.2.2 y g y0 y1 g0 g1 ne2 hn2 (by omega)
      have := hle y y0 y1
      omega
/-- laying what tells something costs no more than one lift and what is needed where that one lies -/
theorem sgv_mono {n y g : Int} {R : Rl} (hn : 1 ≤ n ∧ n ≤ 5) (hR : SPO n R) (ho : OpR n R y g) (hg : 0 ≤ g ∧ g < n) (ne : g ≠ y) : sgv n R y g ≤ 1 + vl n R g := by
  rw [sgv_o ho]
  have w := (vl_iff hn hR g (vl n R g)).mpr (Nat.le_refl _)
  have s1 := jn_spo hR hg ho.1 ne ho.2.1
  have s2 := jn_spo hR ho.1 hg (fun z => ne z.symm) ho.2.2
  have w1 := (vl_iff hn s1 g _).mp (Win.mono _ hR s1 jn_sub w)
  have w2 := (vl_iff hn s2 g _).mp (Win.mono _ hR s2 jn_sub w)
  omega
/-- one detour is enough -/
theorem told1 {n w P : Int} (hn : 1 ≤ n ∧ n ≤ 5) (hw : OW n w) (hnw : ¬ WhR n (RB w)) (hT : Tld n w P) : ∀ (N : Nat) (y : Int), 0 ≤ y → y < n → vl n (RB w) y < N → nib P y = (vl n (RB w) y : Int) ∨ ∃ g : Int, (0 ≤ g ∧ g < n) ∧ g ≠ y ∧ ¬ OpR n (RB w) y g ∧ 1 + nib P g ≤ (vl n (RB w) y : Int) := by
  intro N
  induction N with
  | zero => intro y y0 y1 h; exact absurd h (Nat.not_lt_zero _)
  | succ N ih =>
    intro y y0 y1 hl
    have hv := hT.2.1 y y0 y1
    obtain ⟨g, hg, hgy, he⟩ := vl_ex (y := y) hn hw.2 hnw
    by_cases ho : OpR n (RB w) y g
    · have := hT.2.2 y g y0 y1 hg.1 hg.2 (fun z => hgy z.symm) ho
      exact Or.inl (by omega)
    · rw [sgv_n ho] at he
      rcases ih g hg.1 hg.2 (by omega) with q | ⟨k, hk, hkg, hno, hle⟩
      · exact Or.inr ⟨g, hg, hgy, ho, by omega⟩
      · by_cases e : k = y
        · rw [e] at hle; exact absurd hv (by omega)
        · by_cases ho2 : OpR n (RB w) y k
          · have a1 := hT.2.2 y k y0 y1 hk.1 hk.2 (fun z => e z.symm) ho2
            have a2 := sgv_mono hn hw.2 ho2 hk e
            have a3 := hT.2.1 k hk.1 hk.2
            exact Or.inl (by omega)
          · exact Or.inr ⟨k, hk, e, ho2, by omega⟩
theorem RD_end {n w Q P : Int} (hn : 1 ≤ n ∧ n ≤ 5) (hw : OW n w) (hnw : ¬ WhR n (RB w)) (hT : Tld n w Q) (h : RD n w Q n 0 P) : Pk n P (vl n (RB w)) := by
  refine ⟨h.1, fun y y0 y1 => ?_⟩
  have a := h.2.1 y y0 y1
  rcases told1 hn hw hnw hT (vl n (RB w) y + 1) y y0 y1 (Nat.lt_succ_self _) with q | ⟨g, hg, hgy, hno, hle⟩
  · omega
  · have := h.2.2 y g y0 y1 hg.1 hg.2 (fun z => hgy z.symm) hno (Or.inl y1)
    omega
/-- the pairs up to (i, j) are in P -/
def TL (n w i j P : Int) : Prop := W20 P ∧ (∀ y : Int, 0 ≤ y → y < n → (vl n (RB w) y : Int) ≤ nib P y) ∧ ∀ y g : Int, 0 ≤ y → y < n → 0 ≤ g → g < n → y ≠ g → OpR n (RB w) y g → (max y g < i ∨ (max y g = i ∧ min y g < j)) → nib P y ≤ (sgv n (RB w) y g : Int)
theorem TL_next {n w i P : Int} (h : TL n w i i P) : TL n w (i + 1) 0 P := ⟨h.1, h.2.1, fun y g y0 y1 g0 g1 ne ho q => h.2.2 y g y0 y1 g0 g1 ne ho (by omega)⟩
theorem OpR_s {n : Int} {R : Rl} {y g : Int} (h : OpR n R y g) (hg : 0 ≤ g ∧ g < n) : OpR n R g y := ⟨hg, h.2.2, h.2.1⟩
theorem TL_skip {n w i j P : Int} (h : TL n w i j P) (hj : 0 ≤ j ∧ j < i) (hi : i < n) (hs : ¬ OpR n (RB w) i j) : TL n w i (j + 1) P := ⟨h.1, h.2.1, fun y g y0 y1 g0 g1 ne ho q => by
  by_cases e : y = i ∧ g = j
  · obtain ⟨rfl, rfl⟩ := e
    exact absurd ho hs
  · by_cases e2 : y = j ∧ g = i
    · obtain ⟨rfl, rfl⟩ := e2
      exact absurd (OpR_s ho ⟨g0, g1⟩) hs
    · exact h.2.2 y g y0 y1 g0 g1 ne ho (by omega)⟩
theorem TL_yes {n w i j P Q z : Int} (hn : 1 ≤ n ∧ n ≤ 5) (hw : OW n w) (h : TL n w i j P) (hj : 0 ≤ j ∧ j < i) (hi : i < n) (hQ : W20 z) (q1 : nib Q j = min (nib P j) (sgv n (RB w) j i : Int)) (q2 : ∀ y : Int, 0 ≤ y → y < 5 → y ≠ j → nib Q y = nib P y) (z1 : nib z i = min (nib Q i) (sgv n (RB w) i j : Int)) (z2 : ∀ y : Int, 0 ≤ y → y < 5 → y ≠ i → nib z y = nib Q y) : TL n w i (j + 1) z := by
  have v1 := vl_sgv (R := RB w) (y := j) (g := i) hn hw.2 (by omega) (by omega)
  have v2 := vl_sgv (R := RB w) (y := i) (g := j) hn hw.2 (by omega) (by omega)
  have e1 : nib z i = min (nib P i) (sgv n (RB w) i j : Int) := by rw [z1, q2 i (by omega) (by omega) (by omega)]
  have e2 : nib z j = min (nib P j) (sgv n (RB w) j i : Int) := by rw [z2 j (by omega) (by omega) (by omega), q1]
  have e3 : ∀ y : Int, 0 ≤ y → y < n → y ≠ i → y ≠ j → nib z y = nib P y := fun y y0 y1 a c => by rw [z2 y y0 (by omega) a, q2 y y0 (by omega) c]
  have hle : ∀ y : Int, 0 ≤ y → y < n → nib z y ≤ nib P y := fun y y0 y1 => by
    by_cases a : y = i
    · rw [a, e1]; omega
    · by_cases c : y = j
      · rw [c, e2]; omega
      · rw [e3 y y0 y1 a c]; omega
  refine ⟨hQ, fun y y0 y1 => ?_, fun y g y0 y1 g0 g1 ne ho q => ?_⟩
  · have := h.2.1 y y0 y1
    by_cases a : y = i
    · subst a; rw [e1]; omega
    · by_cases c : y = j
      · subst c; rw [e2]; omega
      · rw [e3 y y0 y1 a c]; omega
  · by_cases e : y = i ∧ g = j
    · obtain ⟨rfl, rfl⟩ := e
      rw [e1]; omega
    · by_cases e2' : y = j ∧ g = i
      · obtain ⟨rfl, rfl⟩ := e2'
        rw [e2]; omega
      · have := h.2.2 y g y0 y1 g0 g1 ne ho (by omega)
        have := hle y y0 y1
        omega
theorem TL_end {n w P : Int} (h : TL n w n 0 P) : Tld n w P := ⟨h.1, h.2.1, fun y g y0 y1 g0 g1 ne ho => h.2.2 y g y0 y1 g0 g1 ne ho (Or.inl (by omega))⟩
theorem ini15 {n : Int} (hn : 1 ≤ n ∧ n ≤ 5) : W20 (iShl 1 (n * 4) - 1) ∧ ∀ y : Int, 0 ≤ y → y < n → nib (iShl 1 (n * 4) - 1) y = 15 := by
  have key : ∀ m : Nat, m < 5 → W20 (iShl 1 (((m : Int) + 1) * 4) - 1) ∧ ∀ y : Nat, y < m + 1 → nib (iShl 1 (((m : Int) + 1) * 4) - 1) y = 15 := by unfold W20; decide +kernel
  have h := key (n - 1).toNat (by omega)
  rw [show ((n - 1).toNat : Int) + 1 = n by omega] at h
  refine ⟨h.1, fun y y0 y1 => ?_⟩
  have := h.2 y.toNat (by omega)
  rwa [show ((y.toNat : Nat) : Int) = y by omega] at this
theorem TL_0 {n w : Int} (hn : 1 ≤ n ∧ n ≤ 5) (hw : OW n w) : TL n w 1 0 (iShl 1 (n * 4) - 1) := by
  refine ⟨(ini15 hn).1, fun y y0 y1 => ?_, fun y g y0 y1 g0 g1 ne ho q => ?_⟩
  · rw [(ini15 hn).2 y y0 y1]
    have := vl_11 hn hw.2 y
    omega
  · exact absurd q (by omega)
/-- a join tells one pair more -/
theorem bc_join {n w a c w' : Int} (hn : 1 ≤ n ∧ n ≤ 5) (hw : OW n w) (hw' : OW n w') (hj : JB w a c w') (ha : 0 ≤ a ∧ a < n) (hc : 0 ≤ c ∧ c < n) (ne : a ≠ c) (h1 : ¬ RB w a c) (h2 : ¬ RB w c a) : bcF w + 1 ≤ bcF w' := by
  rw [(hw.five hn.2).bc, (hw'.five hn.2).bc]
  have sub : ∀ i j, RB w i j → RB w' i j := fun i j q => by rw [hj.2]; exact Or.inl q
  have mono : ∀ i j : Int, b2i (RB w i j ∨ RB w j i) ≤ b2i (RB w' i j ∨ RB w' j i) := fun i j => by
    by_cases q : RB w i j ∨ RB w j i
    · rw [b2i_t q, b2i_t (q.imp (sub _ _) (sub _ _))]; omega
    · rw [b2i_f q]
      rcases b2i_01 (p := RB w' i j ∨ RB w' j i) with z | z <;> omega
  have has : RB w' a c := by rw [hj.2]; exact jn_has
  have one : ∀ i j : Int, (i = a ∧ j = c) ∨ (i = c ∧ j = a) → b2i (RB w i j ∨ RB w j i) = 0 ∧ b2i (RB w' i j ∨ RB w' j i) = 1 := fun i j q => by
    rcases q with ⟨rfl, rfl⟩ | ⟨rfl, rfl⟩
    · exact ⟨b2i_f (fun z => z.elim h1 h2), b2i_t (Or.inl has)⟩
    · exact ⟨b2i_f (fun z => z.elim h2 h1), b2i_t (Or.inr has)⟩
  have m10 := mono 1 0
  have m20 := mono 2 0
  have m21 := mono 2 1
  have m30 := mono 3 0
  have m31 := mono 3 1
  have m32 := mono 3 2
  have m40 := mono 4 0
  have m41 := mono 4 1
  have m42 := mono 4 2
  have m43 := mono 4 3
  have key : ∃ i j : Int, ((i = a ∧ j = c) ∨ (i = c ∧ j = a)) ∧ j < i ∧ 0 ≤ j ∧ i < 5 := by
    rcases (show c < a ∨ a < c by omega) with l | l
    · exact ⟨a, c, Or.inl ⟨rfl, rfl⟩, l, by omega, by omega⟩
    · exact ⟨c, a, Or.inr ⟨rfl, rfl⟩, l, by omega, by omega⟩
  obtain ⟨i, j, hij, l1, l2, l3⟩ := key
  have ho := one i j hij
  rcases (show (i = 1 ∧ j = 0) ∨ (i = 2 ∧ j = 0) ∨ (i = 2 ∧ j = 1) ∨ (i = 3 ∧ j = 0) ∨ (i = 3 ∧ j = 1) ∨ (i = 3 ∧ j = 2) ∨ (i = 4 ∧ j = 0) ∨ (i = 4 ∧ j = 1) ∨ (i = 4 ∧ j = 2) ∨ (i = 4 ∧ j = 3) by omega) with ⟨e, e2⟩ | ⟨e, e2⟩ | ⟨e, e2⟩ | ⟨e, e2⟩ | ⟨e, e2⟩ | ⟨e, e2⟩ | ⟨e, e2⟩ | ⟨e, e2⟩ | ⟨e, e2⟩ | ⟨e, e2⟩ <;> rw [e, e2] at ho <;> omega
/-- the memory of the planner -/
def PlM (μ : Mu) (b : Nat) (n : Int) : Prop := ∀ w : Int, OW n w → ¬ WhR n (RB w) → μ (b + 1) (cdO w (n - 1).toNat) = 0 ∨ Pk n (μ (b + 1) (cdO w (n - 1).toNat)) (vl n (RB w))
def PlC (μ : Mu) (b : Nat) (n : Int) : Prop := μ b 0 = n ∧ μ b 1 = n * (n - 1) / 2
def Kp (μ μ' : Mu) (b : Nat) (n : Int) : Prop := PlM μ' b n ∧ ∀ q : Nat, q ≠ b + 1 → μ' q = μ q
theorem PlC.kp {μ μ' : Mu} {b : Nat} {n : Int} (h : PlC μ b n) (k : Kp μ μ' b n) : PlC μ' b n := by
  unfold PlC
  rw [k.2 b (by omega)]; exact h
theorem Kp.trans {μ μ' μ2 : Mu} {b : Nat} {n : Int} (h : Kp μ μ' b n) (h2 : Kp μ' μ2 b n) : Kp μ μ2 b n := ⟨h2.1, fun q hq => (h2.2 q hq).trans (h.2 q hq)⟩
theorem pr_r {n : Int} (hn : 1 ≤ n ∧ n ≤ 5) : 0 ≤ n * (n - 1) / 2 ∧ n * (n - 1) / 2 ≤ 10 := by
  rcases (show n = 1 ∨ n = 2 ∨ n = 3 ∨ n = 4 ∨ n = 5 by omega) with q | q | q | q | q <;> subst q <;> decide
theorem cdN_r {n : Int} (hn : 1 ≤ n ∧ n ≤ 5) : cdN (n - 1).toNat ≤ 59049 := by
  rcases (show n = 1 ∨ n = 2 ∨ n = 3 ∨ n = 4 ∨ n = 5 by omega) with q | q | q | q | q <;> subst q <;> decide
theorem bc_nn {n w : Int} (hn : n ≤ 5) (hw : OW n w) : 0 ≤ bcF w ∧ bcF w ≤ 10 := by
  rw [(hw.five hn).bc]
  have h := fun i j : Int => b2i_01 (p := RB w i j ∨ RB w j i)
  have m10 := h 1 0
  have m20 := h 2 0
  have m21 := h 2 1
  have m30 := h 3 0
  have m31 := h 3 1
  have m32 := h 3 2
  have m40 := h 4 0
  have m41 := h 4 1
  have m42 := h 4 2
  have m43 := h 4 3
  omega
theorem Pk_0 {n w : Int} (hn : 1 ≤ n ∧ n ≤ 5) (hw : OW n w) (h : WhR n (RB w)) : Pk n 0 (vl n (RB w)) := by
  refine ⟨⟨by decide, by decide⟩, fun y y0 y1 => ?_⟩
  rw [(vl_0 hn hw.2 y).mpr h]
  refine tb_ext (by have := nib_r (P := 0) (y := y) (by omega); omega) (by decide) fun j j0 j1 => ?_
  rw [tb_nib (by omega) ⟨j0, j1⟩]
  exact ⟨fun q => absurd q.2 tb_zero, fun q => absurd q tb_zero⟩
theorem PlM_put {μ μ' : Mu} {b : Nat} {n w z : Int} (hn : 1 ≤ n ∧ n ≤ 5) (hw : OW n w) (h : Kp μ μ' b n) (hz : Pk n z (vl n (RB w))) : Kp μ (upd2 μ' (b + 1) (cdO w (n - 1).toNat) z) b n := by
  refine ⟨fun w2 h2 hn2 => ?_, fun q hq => (upd2_row hq).trans (h.2 q hq)⟩
  by_cases e : cdO w2 (n - 1).toNat = cdO w (n - 1).toNat
  · have := cdO_un hn h2 hw e
    subst this
    rw [upd2_same]; exact Or.inr hz
  · rw [upd2_ap, if_neg (fun q => e q.2)]
    exact h.1 w2 h2 hn2
section PLAN2
variable {l : Launch} {G : Glb} {S : Sh} {μ : Mu} {b : Nat} {n : Int}
set_option maxHeartbeats 4000000 in
set_option maxRecDepth 100000 in
theorem li_X3_withDetours {w P0 i : Int} {N0 : Nat} (hP : PlnS S b N0) (hn : 1 ≤ n ∧ n ≤ 5) (hg : μ b 0 = n) (hw : OW n w) (hT : Tld n w P0) (hi : 0 ≤ i ∧ i < n) (hh : ∀ (P : Int) (L : List Value), RD n w P0 (i + 1) 0 P → V l G cX3_withDetours (yX3_withDetours, 6, (some FieldType.int), 2, 0, 0) (Re S (fun z μ' => μ' = μ ∧ Pk n z (vl n (RB w)))) (0, 0) S μ 5 ([.ref b, vi w, vi P0, vi P, vi (i + 1)] ++ L) []) : ∀ (N : Nat) (j P : Int), (0 ≤ j ∧ j ≤ n) → n - j < N → RD n w P0 i j P → V l G cX3_withDetours (yX3_withDetours, 6, (some FieldType.int), 2, 0, 0) (Re S (fun z μ' => μ' = μ ∧ Pk n z (vl n (RB w)))) (0, 0) S μ 17 [.ref b, vi w, vi P0, vi P, vi i, vi j] [] := by
  intro N
  induction N with
  | zero => intros; omega
  | succ N ih =>
    intro j P h0 h1 hR
    refine v_iload aX3_withDetours_17 rfl ?_
    refine v_aload_n aX3_withDetours_19 rfl ?_
    refine v_gi 0 rfl aX3_withDetours_20 fX3_18 hP.p rfl rfl ?_
    refine v_icmp_ge 65 rfl aX3_withDetours_23 (by omega) (by omega) (fun c23 => ?_) (fun c23 => ?_)
    · --
      refine v_iinc aX3_withDetours_65 rfl (by decide) rfl ?_
      refine v_goto 5 rfl aX3_withDetours_68 ?_
      obtain rfl : j = n := by omega
      exact hh P [vi j] (RD_next hR)
    · --
      refine v_iload aX3_withDetours_26 rfl ?_
      refine v_iload aX3_withDetours_28 rfl ?_
      refine v_icmp_eq 59 rfl aX3_withDetours_30 (by omega) (by omega) (fun c30 => ?_) (fun c30 => ?_)
      · --
        refine v_iinc aX3_withDetours_59 rfl (by decide) rfl ?_
        refine v_goto 17 rfl aX3_withDetours_62 ?_
        exact ih (j + 1) P (by omega) (by omega) (RD_skip hR (Or.inl c30))
      · --
        refine v_iload_n aX3_withDetours_33 rfl ?_
        refine v_iload aX3_withDetours_34 rfl ?_
        refine v_iload aX3_withDetours_36 rfl ?_
        refine v_cSi (c_X3_isOpen (by omega) (by omega)) aX3_withDetours_38 mX3_isOpen sX3_isOpen lX3_66 rfl rfl (Nat.le_of_ble_eq_true rfl) ⟨Nat.le_of_ble_eq_true rfl, Nat.le_of_ble_eq_true rfl⟩ (Nat.le_of_ble_eq_true rfl) ?_
        have eo : (¬ tb w (5 * i + j) ∧ ¬ tb w (5 * j + i)) ↔ OpR n (RB w) i j := ⟨fun q => ⟨by omega, fun z => q.1 z.2.2, fun z => q.2 z.2.2⟩, fun q => ⟨fun z => q.2.1 ⟨by omega, by omega, z⟩, fun z => q.2.2 ⟨by omega, by omega, z⟩⟩⟩
        
        refine v_if_ne_b 59 rfl aX3_withDetours_41 (fun c41 => ?_) (fun c41 => ?_)
        · --
          refine v_iinc aX3_withDetours_59 rfl (by decide) rfl ?_
          refine v_goto 17 rfl aX3_withDetours_62 ?_
          exact ih (j + 1) P (by omega) (by omega) (RD_skip hR (Or.inr (eo.mp c41)))
        · --
          refine v_iload_n aX3_withDetours_44 rfl ?_
          refine v_iload aX3_withDetours_45 rfl ?_
          refine v_iconst aX3_withDetours_47 ?_
          refine v_iload_n aX3_withDetours_48 rfl ?_
          refine v_iload aX3_withDetours_49 rfl ?_
          refine v_cSi (c_X3_costWith) aX3_withDetours_51 mX3_costWith sX3_costWith lX3_50 rfl rfl (Nat.le_of_ble_eq_true rfl) ⟨Nat.le_of_ble_eq_true rfl, Nat.le_of_ble_eq_true rfl⟩ (Nat.le_of_ble_eq_true rfl) ?_
          refine v_iadd aX3_withDetours_54 ?_
          have rj := nib_r (P := P0) (y := j) (by omega)
          refine v_cSe (c_X3_withLess hR.1 (by omega) (by omega)) aX3_withDetours_55 mX3_withLess sX3_withLess lX3_76 rfl rfl (Nat.le_of_ble_eq_true rfl) ⟨Nat.le_of_ble_eq_true rfl, Nat.le_of_ble_eq_true rfl⟩ (Nat.le_of_ble_eq_true rfl) (fun z μ' ⟨z0, z1, z2, z3⟩ => ?_)
          subst z0
          refine v_istore_n aX3_withDetours_58 (by decide) rfl ?_
          refine v_iinc aX3_withDetours_59 rfl (by decide) rfl ?_
          refine v_goto 17 rfl aX3_withDetours_62 ?_
          exact ih (j + 1) z (by omega) (by omega) (RD_less hn hw hT hR hi (by omega) c30 (fun q => c41 (eo.mpr q)) z1 z2 z3)
set_option maxHeartbeats 4000000 in
set_option maxRecDepth 100000 in
theorem lo_X3_withDetours {w P0 : Int} {N0 : Nat} (hP : PlnS S b N0) (hn : 1 ≤ n ∧ n ≤ 5) (hg : μ b 0 = n) (hw : OW n w) (hnw : ¬ WhR n (RB w)) (hT : Tld n w P0) : ∀ (N : Nat) (i P : Int) (L : List Value), (0 ≤ i ∧ i ≤ n) → n - i < N → RD n w P0 i 0 P → V l G cX3_withDetours (yX3_withDetours, 6, (some FieldType.int), 2, 0, 0) (Re S (fun z μ' => μ' = μ ∧ Pk n z (vl n (RB w)))) (0, 0) S μ 5 ([.ref b, vi w, vi P0, vi P, vi i] ++ L) [] := by
  intro N
  induction N with
  | zero => intros; omega
  | succ N ih =>
    intro i P L h0 h1 hR
    refine v_take 5 rfl ?_
    show V _ _ _ _ _ _ _ _ _ [.ref b, vi w, vi P0, vi P, vi i] _
    refine v_iload aX3_withDetours_5 rfl ?_
    refine v_aload_n aX3_withDetours_7 rfl ?_
    refine v_gi 0 rfl aX3_withDetours_8 fX3_18 hP.p rfl rfl ?_
    refine v_icmp_ge 71 rfl aX3_withDetours_11 (by omega) (by omega) (fun c11 => ?_) (fun c11 => ?_)
    · --
      refine v_iload_n aX3_withDetours_71 rfl ?_
      refine v_ireturn aX3_withDetours_72 rfl ⟨Nat.le_refl _, Nat.le_refl _⟩ ?_
      obtain rfl : i = n := by omega
      exact ⟨_, rfl, rfl, rfl, RD_end hn hw hnw hT hR⟩
    · --
      refine v_iconst aX3_withDetours_14 ?_
      refine v_istore aX3_withDetours_15 (by decide) rfl ?_
      exact li_X3_withDetours hP hn hg hw hT (by omega) (fun P2 L2 h2 => ih (i + 1) P2 L2 (by omega) (by omega) h2) 6 0 P (by omega) (by omega) hR
set_option maxHeartbeats 4000000 in
set_option maxRecDepth 100000 in
theorem c_X3_withDetours {w P0 : Int} {N0 : Nat} (hP : PlnS S b N0) (hn : 1 ≤ n ∧ n ≤ 5) (hg : μ b 0 = n) (hw : OW n w) (hnw : ¬ WhR n (RB w)) (hT : Tld n w P0) : Ct l G cX3_withDetours (yX3_withDetours, 6, (some FieldType.int), 2, 0, 0) [.ref b, vi w, vi P0] S μ (Re S (fun z μ' => μ' = μ ∧ Pk n z (vl n (RB w)))) := by
  refine Ct.of (by decide) rfl (by simp [vi, Value.category]) (Nat.le_of_ble_eq_true rfl) ?_
  refine v_iload_n aX3_withDetours_0 rfl ?_
  refine v_istore_n aX3_withDetours_1 (by decide) rfl ?_
  refine v_iconst aX3_withDetours_2 ?_
  refine v_istore aX3_withDetours_3 (by decide) rfl ?_
  exact lo_X3_withDetours hP hn hg hw hnw hT 6 0 P0 [] (by omega) (by omega) (RD_0 hT)
end PLAN2
