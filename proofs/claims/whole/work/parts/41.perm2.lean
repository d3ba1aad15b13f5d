/-! the orders of n sacks, in words of the digits -/
theorem pV2 (i : Nat) (h : i < 2) : vbB 2 (pc 2 i) = true := by
  have q := alB_s (alB_s pA2 (i / 1) (by omega)) (i % 1) (Nat.mod_lt _ (by decide))
  try dsimp only at q
  rwa [show 1 * (i / 1) + i % 1 = i by omega] at q
theorem pX2 (i : Nat) (h : i + 1 < 2) : nxB 2 (pc 2 i) (pc 2 (i + 1)) = true := by
  have q := alB_s (alB_s pB2 (i / 1) (by omega)) (i % 1) (Nat.mod_lt _ (by decide))
  try dsimp only at q
  rw [show 1 * (i / 1) + i % 1 = i by omega, Bool.or_eq_true, decide_eq_true_eq] at q
  exact q.resolve_left (by omega)
theorem pW2 (c : Nat) (hc : c < 4) (hd : ∀ j k : Nat, j < 2 → k < 2 → dN 2 c j = dN 2 c k → j = k) : ∃ i, i < 2 ∧ pc 2 i = c := by
  have e0 : dN 2 c 0 = c / 2 % 2 := rfl
  have e1 : dN 2 c 1 = c / 1 % 2 := rfl
  obtain ⟨i, i0, i1⟩ := pQ2 (d0 := dN 2 c 0) (d1 := dN 2 c 1) (Nat.mod_lt _ (by decide)) (Nat.mod_lt _ (by decide)) (fun z => absurd (hd 1 0 (by decide) (by decide) z) (by decide))
  refine ⟨i, i0, i1.trans ?_⟩
  rw [e0, e1]
  omega
theorem pI2 : alB 2 (fun k => dN 2 (pc 2 0) k == k) = true := by decide +kernel
theorem pV3 (i : Nat) (h : i < 6) : vbB 3 (pc 3 i) = true := by
  have q := alB_s (alB_s pA3 (i / 1) (by omega)) (i % 1) (Nat.mod_lt _ (by decide))
  try dsimp only at q
  rwa [show 1 * (i / 1) + i % 1 = i by omega] at q
theorem pX3 (i : Nat) (h : i + 1 < 6) : nxB 3 (pc 3 i) (pc 3 (i + 1)) = true := by
  have q := alB_s (alB_s pB3 (i / 1) (by omega)) (i % 1) (Nat.mod_lt _ (by decide))
  try dsimp only at q
  rw [show 1 * (i / 1) + i % 1 = i by omega, Bool.or_eq_true, decide_eq_true_eq] at q
  exact q.resolve_left (by omega)
theorem pW3 (c : Nat) (hc : c < 27) (hd : ∀ j k : Nat, j < 3 → k < 3 → dN 3 c j = dN 3 c k → j = k) : ∃ i, i < 6 ∧ pc 3 i = c := by
  have e0 : dN 3 c 0 = c / 9 % 3 := rfl
  have e1 : dN 3 c 1 = c / 3 % 3 := rfl
  have e2 : dN 3 c 2 = c / 1 % 3 := rfl
  obtain ⟨i, i0, i1⟩ := pQ3 (d0 := dN 3 c 0) (d1 := dN 3 c 1) (d2 := dN 3 c 2) (Nat.mod_lt _ (by decide)) (Nat.mod_lt _ (by decide)) (Nat.mod_lt _ (by decide)) (fun z => absurd (hd 1 0 (by decide) (by decide) z) (by decide)) (fun z => absurd (hd 2 0 (by decide) (by decide) z) (by decide)) (fun z => absurd (hd 2 1 (by decide) (by decide) z) (by decide))
  refine ⟨i, i0, i1.trans ?_⟩
  rw [e0, e1, e2]
  omega
theorem pI3 : alB 3 (fun k => dN 3 (pc 3 0) k == k) = true := by decide +kernel
theorem pV4 (i : Nat) (h : i < 24) : vbB 4 (pc 4 i) = true := by
  have q := alB_s (alB_s pA4 (i / 1) (by omega)) (i % 1) (Nat.mod_lt _ (by decide))
  try dsimp only at q
  rwa [show 1 * (i / 1) + i % 1 = i by omega] at q
theorem pX4 (i : Nat) (h : i + 1 < 24) : nxB 4 (pc 4 i) (pc 4 (i + 1)) = true := by
  have q := alB_s (alB_s pB4 (i / 1) (by omega)) (i % 1) (Nat.mod_lt _ (by decide))
  try dsimp only at q
  rw [show 1 * (i / 1) + i % 1 = i by omega, Bool.or_eq_true, decide_eq_true_eq] at q
  exact q.resolve_left (by omega)
theorem pW4 (c : Nat) (hc : c < 256) (hd : ∀ j k : Nat, j < 4 → k < 4 → dN 4 c j = dN 4 c k → j = k) : ∃ i, i < 24 ∧ pc 4 i = c := by
  have e0 : dN 4 c 0 = c / 64 % 4 := rfl
  have e1 : dN 4 c 1 = c / 16 % 4 := rfl
  have e2 : dN 4 c 2 = c / 4 % 4 := rfl
  have e3 : dN 4 c 3 = c / 1 % 4 := rfl
  obtain ⟨i, i0, i1⟩ := pQ4 (d0 := dN 4 c 0) (d1 := dN 4 c 1) (d2 := dN 4 c 2) (d3 := dN 4 c 3) (Nat.mod_lt _ (by decide)) (Nat.mod_lt _ (by decide)) (Nat.mod_lt _ (by decide)) (Nat.mod_lt _ (by decide)) (fun z => absurd (hd 1 0 (by decide) (by decide) z) (by decide)) (fun z => absurd (hd 2 0 (by decide) (by decide) z) (by decide)) (fun z => absurd (hd 2 1 (by decide) (by decide) z) (by decide)) (fun z => absurd (hd 3 0 (by decide) (by decide) z) (by decide)) (fun z => absurd (hd 3 1 (by decide) (by decide) z) (by decide)) (fun z => absurd (hd 3 2 (by decide) (by decide) z) (by decide))
  refine ⟨i, i0, i1.trans ?_⟩
  rw [e0, e1, e2, e3]
  omega
theorem pI4 : alB 4 (fun k => dN 4 (pc 4 0) k == k) = true := by decide +kernel
theorem pV5 (i : Nat) (h : i < 120) : vbB 5 (pc 5 i) = true := by
  have q := alB_s (alB_s pA5 (i / 5) (by omega)) (i % 5) (Nat.mod_lt _ (by decide))
  try dsimp only at q
  rwa [show 5 * (i / 5) + i % 5 = i by omega] at q
theorem pX5 (i : Nat) (h : i + 1 < 120) : nxB 5 (pc 5 i) (pc 5 (i + 1)) = true := by
  have q := alB_s (alB_s pB5 (i / 5) (by omega)) (i % 5) (Nat.mod_lt _ (by decide))
  try dsimp only at q
  rw [show 5 * (i / 5) + i % 5 = i by omega, Bool.or_eq_true, decide_eq_true_eq] at q
  exact q.resolve_left (by omega)
theorem pW5 (c : Nat) (hc : c < 3125) (hd : ∀ j k : Nat, j < 5 → k < 5 → dN 5 c j = dN 5 c k → j = k) : ∃ i, i < 120 ∧ pc 5 i = c := by
  have e0 : dN 5 c 0 = c / 625 % 5 := rfl
  have e1 : dN 5 c 1 = c / 125 % 5 := rfl
  have e2 : dN 5 c 2 = c / 25 % 5 := rfl
  have e3 : dN 5 c 3 = c / 5 % 5 := rfl
  have e4 : dN 5 c 4 = c / 1 % 5 := rfl
  obtain ⟨i, i0, i1⟩ := pQ5 (d0 := dN 5 c 0) (d1 := dN 5 c 1) (d2 := dN 5 c 2) (d3 := dN 5 c 3) (d4 := dN 5 c 4) (Nat.mod_lt _ (by decide)) (Nat.mod_lt _ (by decide)) (Nat.mod_lt _ (by decide)) (Nat.mod_lt _ (by decide)) (Nat.mod_lt _ (by decide)) (fun z => absurd (hd 1 0 (by decide) (by decide) z) (by decide)) (fun z => absurd (hd 2 0 (by decide) (by decide) z) (by decide)) (fun z => absurd (hd 2 1 (by decide) (by decide) z) (by decide)) (fun z => absurd (hd 3 0 (by decide) (by decide) z) (by decide)) (fun z => absurd (hd 3 1 (by decide) (by decide) z) (by decide)) (fun z => absurd (hd 3 2 (by decide) (by decide) z) (by decide)) (fun z => absurd (hd 4 0 (by decide) (by decide) z) (by decide)) (fun z => absurd (hd 4 1 (by decide) (by decide) z) (by decide)) (fun z => absurd (hd 4 2 (by decide) (by decide) z) (by decide)) (fun z => absurd (hd 4 3 (by decide) (by decide) z) (by decide))
  refine ⟨i, i0, i1.trans ?_⟩
  rw [e0, e1, e2, e3, e4]
  omega
theorem pI5 : alB 5 (fun k => dN 5 (pc 5 0) k == k) = true := by decide +kernel
theorem pV6 (i : Nat) (h : i < 720) : vbB 6 (pc 6 i) = true := by
  have q := alB_s (alB_s pA6 (i / 30) (by omega)) (i % 30) (Nat.mod_lt _ (by decide))
  try dsimp only at q
  rwa [show 30 * (i / 30) + i % 30 = i by omega] at q
theorem pX6 (i : Nat) (h : i + 1 < 720) : nxB 6 (pc 6 i) (pc 6 (i + 1)) = true := by
  have q := alB_s (alB_s pB6 (i / 30) (by omega)) (i % 30) (Nat.mod_lt _ (by decide))
  try dsimp only at q
  rw [show 30 * (i / 30) + i % 30 = i by omega, Bool.or_eq_true, decide_eq_true_eq] at q
  exact q.resolve_left (by omega)
theorem pW6 (c : Nat) (hc : c < 46656) (hd : ∀ j k : Nat, j < 6 → k < 6 → dN 6 c j = dN 6 c k → j = k) : ∃ i, i < 720 ∧ pc 6 i = c := by
  have e0 : dN 6 c 0 = c / 7776 % 6 := rfl
  have e1 : dN 6 c 1 = c / 1296 % 6 := rfl
  have e2 : dN 6 c 2 = c / 216 % 6 := rfl
  have e3 : dN 6 c 3 = c / 36 % 6 := rfl
  have e4 : dN 6 c 4 = c / 6 % 6 := rfl
  have e5 : dN 6 c 5 = c / 1 % 6 := rfl
  obtain ⟨i, i0, i1⟩ := pQ6 (d0 := dN 6 c 0) (d1 := dN 6 c 1) (d2 := dN 6 c 2) (d3 := dN 6 c 3) (d4 := dN 6 c 4) (d5 := dN 6 c 5) (Nat.mod_lt _ (by decide)) (Nat.mod_lt _ (by decide)) (Nat.mod_lt _ (by decide)) (Nat.mod_lt _ (by decide)) (Nat.mod_lt _ (by decide)) (Nat.mod_lt _ (by decide)) (fun z => absurd (hd 1 0 (by decide) (by decide) z) (by decide)) (fun z => absurd (hd 2 0 (by decide) (by decide) z) (by decide)) (fun z => absurd (hd 2 1 (by decide) (by decide) z) (by decide)) (fun z => absurd (hd 3 0 (by decide) (by decide) z) (by decide)) (fun z => absurd (hd 3 1 (by decide) (by decide) z) (by decide)) (fun z => absurd (hd 3 2 (by decide) (by decide) z) (by decide)) (fun z => absurd (hd 4 0 (by decide) (by decide) z) (by decide)) (fun z => absurd (hd 4 1 (by decide) (by decide) z) (by decide)) (fun z => absurd (hd 4 2 (by decide) (by decide) z) (by decide)) (fun z => absurd (hd 4 3 (by decide) (by decide) z) (by decide)) (fun z => absurd (hd 5 0 (by decide) (by decide) z) (by decide)) (fun z => absurd (hd 5 1 (by decide) (by decide) z) (by decide)) (fun z => absurd (hd 5 2 (by decide) (by decide) z) (by decide)) (fun z => absurd (hd 5 3 (by decide) (by decide) z) (by decide)) (fun z => absurd (hd 5 4 (by decide) (by decide) z) (by decide))
  refine ⟨i, i0, i1.trans ?_⟩
  rw [e0, e1, e2, e3, e4, e5]
  omega
theorem pI6 : alB 6 (fun k => dN 6 (pc 6 0) k == k) = true := by decide +kernel
theorem pV {n : Nat} (hn : 2 ≤ n ∧ n ≤ 6) {i : Nat} (h : i < fcN n) : vbB n (pc n i) = true := by
  have hh : n = 2 ∨ n = 3 ∨ n = 4 ∨ n = 5 ∨ n = 6 := by omega
  rcases hh with q | q | q | q | q <;> subst q
  · exact pV2 i h
  · exact pV3 i h
  · exact pV4 i h
  · exact pV5 i h
  · exact pV6 i h
theorem pX {n : Nat} (hn : 2 ≤ n ∧ n ≤ 6) {i : Nat} (h : i + 1 < fcN n) : nxB n (pc n i) (pc n (i + 1)) = true := by
  have hh : n = 2 ∨ n = 3 ∨ n = 4 ∨ n = 5 ∨ n = 6 := by omega
  rcases hh with q | q | q | q | q <;> subst q
  · exact pX2 i h
  · exact pX3 i h
  · exact pX4 i h
  · exact pX5 i h
  · exact pX6 i h
theorem pW {n : Nat} (hn : 2 ≤ n ∧ n ≤ 6) {c : Nat} (hc : c < n ^ n) (hd : ∀ j k : Nat, j < n → k < n → dN n c j = dN n c k → j = k) : ∃ i, i < fcN n ∧ pc n i = c := by
  have hh : n = 2 ∨ n = 3 ∨ n = 4 ∨ n = 5 ∨ n = 6 := by omega
  rcases hh with q | q | q | q | q <;> subst q
  · exact pW2 c hc hd
  · exact pW3 c hc hd
  · exact pW4 c hc hd
  · exact pW5 c hc hd
  · exact pW6 c hc hd
theorem pLst {n : Nat} (hn : 2 ≤ n ∧ n ≤ 6) : alB (n - 1) (fun p => !(ascB n (pc n (fcN n - 1)) p)) = true := by
  have hh : n = 2 ∨ n = 3 ∨ n = 4 ∨ n = 5 ∨ n = 6 := by omega
  rcases hh with q | q | q | q | q <;> subst q
  · exact pL2
  · exact pL3
  · exact pL4
  · exact pL5
  · exact pL6
theorem pI {n : Nat} (hn : 2 ≤ n ∧ n ≤ 6) : alB n (fun k => dN n (pc n 0) k == k) = true := by
  have hh : n = 2 ∨ n = 3 ∨ n = 4 ∨ n = 5 ∨ n = 6 := by omega
  rcases hh with q | q | q | q | q <;> subst q
  · exact pI2
  · exact pI3
  · exact pI4
  · exact pI5
  · exact pI6
theorem fc_r {n : Nat} (hn : 2 ≤ n ∧ n ≤ 6) : 2 ≤ fcN n ∧ fcN n ≤ 720 := by
  have hh : n = 2 ∨ n = 3 ∨ n = 4 ∨ n = 5 ∨ n = 6 := by omega
  rcases hh with q | q | q | q | q <;> subst q
  · exact ⟨by decide, by decide⟩
  · exact ⟨by decide, by decide⟩
  · exact ⟨by decide, by decide⟩
  · exact ⟨by decide, by decide⟩
  · exact ⟨by decide, by decide⟩
theorem nn_r {n : Nat} (hn : 2 ≤ n ∧ n ≤ 6) : n ^ n ≤ 46656 := by
  have hh : n = 2 ∨ n = 3 ∨ n = 4 ∨ n = 5 ∨ n = 6 := by omega
  rcases hh with q | q | q | q | q <;> subst q
  · decide
  · decide
  · decide
  · decide
  · decide
theorem qd_nat (b x : Nat) : ∀ j : Nat, qd (b : Int) (x : Int) j = ((x / b ^ j : Nat) : Int)
  | 0 => by show (x : Int) = _; rw [Nat.pow_zero, Nat.div_one]
  | j + 1 => by
    show qd (b : Int) (x : Int) j / (b : Int) = _
    rw [qd_nat b x j, Nat.pow_succ, ← Nat.div_div_eq_div_mul]
    exact (Int.natCast_ediv _ _).symm
theorem dg_nat {n : Int} (hn : 2 ≤ n ∧ n ≤ 6) {c : Nat} {k : Int} (hk : 0 ≤ k ∧ k < n) : dg n (c : Int) n k = ((dN n.toNat c k.toNat : Nat) : Int) := by
  unfold dg dN
  have e : ((n.toNat : Nat) : Int) = n := by omega
  have := qd_nat n.toNat c (n - 1 - k).toNat
  rw [e] at this
  rw [this, show n.toNat - 1 - k.toNat = (n - 1 - k).toNat by omega]
  rw [Int.natCast_emod, e]
def lnI (n : Int) (i : Nat) : Int → Int := dg n ((pc n.toNat i : Nat) : Int) n
def fcI (n : Int) : Nat := fcN n.toNat
def nxI (f : Int → Int) (n p q k : Int) : Int := if k < p then f k else if k = p then f q else if n + p - k = q then f p else f (n + p - k)
theorem ln_vd {n : Int} (hn : 2 ≤ n ∧ n ≤ 6) {i : Nat} (h : i < fcI n) : Vd n n ((pc n.toNat i : Nat) : Int) ∧ pc n.toNat i < n.toNat ^ n.toNat := by
  have q := pV (n := n.toNat) (by omega) h
  unfold vbB at q
  rw [Bool.and_eq_true, decide_eq_true_eq] at q
  refine ⟨⟨?_, fun k k0 k1 => ?_, fun j k j0 j1 k0 k1 e => ?_⟩, q.1⟩
  · have := qd_nat n.toNat (pc n.toNat i) n.toNat
    rw [show ((n.toNat : Nat) : Int) = n by omega] at this
    rw [this, Nat.div_eq_of_lt q.1]; rfl
  · have h1 := Int.emod_nonneg (qd n ((pc n.toNat i : Nat) : Int) (n - 1 - k).toNat) (show n ≠ 0 by omega)
    have h2 := Int.emod_lt_of_pos (qd n ((pc n.toNat i : Nat) : Int) (n - 1 - k).toNat) (show 0 < n by omega)
    exact ⟨h1, h2⟩
  · rw [dg_nat hn ⟨j0, j1⟩, dg_nat hn ⟨k0, k1⟩] at e
    have key : ∀ a b : Nat, a < n.toNat → b < a → dN n.toNat (pc n.toNat i) a ≠ dN n.toNat (pc n.toNat i) b := fun a b ha hb => by
      have := alB_s (alB_s q.2 a ha) b hb
      try dsimp only at this
      rw [Bool.not_eq_true', beq_eq_false_iff_ne] at this
      exact this
    rcases Nat.lt_trichotomy j.toNat k.toNat with z | z | z
    · exact absurd (by omega) (key k.toNat j.toNat (by omega) z)
    · omega
    · exact absurd (by omega) (key j.toNat k.toNat (by omega) z)
theorem ln_pm {n : Int} (hn : 2 ≤ n ∧ n ≤ 6) {i : Nat} (h : i < fcI n) : Pm n (lnI n i) := (ln_vd hn h).1.2
theorem ln_0 {n : Int} (hn : 2 ≤ n ∧ n ≤ 6) (k : Int) (h0 : 0 ≤ k) (h1 : k < n) : lnI n 0 k = k := by
  have q := alB_s (pI (n := n.toNat) (by omega)) k.toNat (by omega)
  rw [beq_iff_eq] at q
  unfold lnI
  rw [dg_nat hn ⟨h0, h1⟩, q]; omega
theorem ln_last {n : Int} (hn : 2 ≤ n ∧ n ≤ 6) {i : Nat} (h : i + 1 = fcI n) (p : Int) (h0 : 0 ≤ p) (h1 : p + 1 < n) : ¬ lnI n i p < lnI n i (p + 1) := by
  have q := alB_s (pLst (n := n.toNat) (by omega)) p.toNat (by omega)
  unfold fcI at h
  unfold ascB at q
  rw [Bool.not_eq_true', decide_eq_false_iff_not, show fcN n.toNat - 1 = i by omega] at q
  unfold lnI
  rw [dg_nat hn ⟨h0, by omega⟩, dg_nat hn ⟨by omega, h1⟩, show (p + 1).toNat = p.toNat + 1 by omega]
  omega
theorem ln_next {n : Int} (hn : 2 ≤ n ∧ n ≤ 6) {i : Nat} (h : i + 1 < fcI n) : pc n.toNat i < pc n.toNat (i + 1) ∧ (∃ p : Int, 0 ≤ p ∧ p + 1 < n ∧ lnI n i p < lnI n i (p + 1)) ∧ ∀ p q : Int, 0 ≤ p → p + 1 < n → lnI n i p < lnI n i (p + 1) → (∀ k : Int, p < k → k + 1 < n → lnI n i (k + 1) < lnI n i k) → p < q → q < n → lnI n i p < lnI n i q → (∀ k : Int, q < k → k < n → lnI n i k < lnI n i p) → ∀ k : Int, 0 ≤ k → k < n → nxI (lnI n i) n p q k = lnI n (i + 1) k := by
  have q := pX (n := n.toNat) (by omega) h
  unfold nxB at q
  rw [Bool.and_eq_true, Bool.and_eq_true, decide_eq_true_eq] at q
  have D : ∀ k : Int, 0 ≤ k → k < n → lnI n i k = ((dN n.toNat (pc n.toNat i) k.toNat : Nat) : Int) := fun k k0 k1 => dg_nat hn ⟨k0, k1⟩
  refine ⟨q.1, ?_, fun p r p0 p1 p2 p3 r0 r1 r2 r3 k k0 k1 => ?_⟩
  · refine Classical.byContradiction fun hne => ?_
    have all : ∀ (m : Nat), m ≤ n.toNat - 1 → alB m (fun p => !(ascB n.toNat (pc n.toNat i) p)) = true := fun m => by
      induction m with
      | zero => intro _; rfl
      | succ m ih =>
        intro hm
        show (!(ascB n.toNat (pc n.toNat i) m) && _) = true
        rw [Bool.and_eq_true, Bool.not_eq_true']
        refine ⟨?_, ih (by omega)⟩
        unfold ascB
        rw [decide_eq_false_iff_not]
        intro z
        refine hne ⟨(m : Int), by omega, by omega, ?_⟩
        rw [D _ (by omega) (by omega), D _ (by omega) (by omega), Int.toNat_natCast, show ((m : Int) + 1).toNat = m + 1 by omega]
        omega
    have := q.2.1
    rw [all _ (Nat.le_refl _)] at this
    exact absurd this (by decide)
  · have h1 := alB_s q.2.2 p.toNat (by omega)
    rw [D _ p0 (by omega), D _ (by omega) p1] at p2
    rw [D _ p0 (by omega), D _ (by omega) r1] at r2
    have g1 : plB n.toNat (pc n.toNat i) p.toNat = true := by
      unfold plB ascB
      rw [Bool.and_eq_true, decide_eq_true_eq]
      refine ⟨by rw [show p.toNat + 1 = (p + 1).toNat by omega]; omega, ?_⟩
      have all : ∀ (m : Nat), m ≤ n.toNat - 1 → alB m (fun k => decide (k ≤ p.toNat) || decide (dN n.toNat (pc n.toNat i) (k + 1) < dN n.toNat (pc n.toNat i) k)) = true := fun m => by
        induction m with
        | zero => intro _; rfl
        | succ m ih =>
          intro hm
          show ((decide (m ≤ p.toNat) || decide (dN n.toNat (pc n.toNat i) (m + 1) < dN n.toNat (pc n.toNat i) m)) && _) = true
          rw [Bool.and_eq_true, Bool.or_eq_true, decide_eq_true_eq, decide_eq_true_eq]
          refine ⟨?_, ih (by omega)⟩
          by_cases z : m ≤ p.toNat
          · exact Or.inl z
          · have := p3 (m : Int) (by omega) (by omega)
            rw [D _ (by omega) (by omega), D _ (by omega) (by omega), Int.toNat_natCast, show ((m : Int) + 1).toNat = m + 1 by omega] at this
            exact Or.inr (by omega)
      exact all _ (Nat.le_refl _)
    try dsimp only at h1
    rw [g1, Bool.not_true, Bool.false_or] at h1
    have h2 := alB_s h1 r.toNat (by omega)
    have g2 : grB n.toNat (pc n.toNat i) p.toNat r.toNat = true := by
      unfold grB
      rw [Bool.and_eq_true, Bool.and_eq_true, decide_eq_true_eq, decide_eq_true_eq]
      refine ⟨⟨by omega, by omega⟩, ?_⟩
      have all : ∀ (m : Nat), m ≤ n.toNat → alB m (fun k => decide (k ≤ r.toNat) || decide (dN n.toNat (pc n.toNat i) k < dN n.toNat (pc n.toNat i) p.toNat)) = true := fun m => by
        induction m with
        | zero => intro _; rfl
        | succ m ih =>
          intro hm
          show ((decide (m ≤ r.toNat) || decide (dN n.toNat (pc n.toNat i) m < dN n.toNat (pc n.toNat i) p.toNat)) && _) = true
          rw [Bool.and_eq_true, Bool.or_eq_true, decide_eq_true_eq, decide_eq_true_eq]
          refine ⟨?_, ih (by omega)⟩
          by_cases z : m ≤ r.toNat
          · exact Or.inl z
          · have := r3 (m : Int) (by omega) (by omega)
            rw [D _ (by omega) (by omega), D _ p0 (by omega), Int.toNat_natCast] at this
            exact Or.inr (by omega)
      exact all _ (Nat.le_refl _)
    try dsimp only at h2
    rw [g2, Bool.not_true, Bool.false_or] at h2
    have h3 := alB_s h2 k.toNat (by omega)
    try dsimp only at h3
    rw [beq_iff_eq] at h3
    have D2 : lnI n (i + 1) k = ((dN n.toNat (pc n.toNat (i + 1)) k.toNat : Nat) : Int) := dg_nat hn ⟨k0, k1⟩
    rw [D2, ← h3]
    unfold nxI nxN
    by_cases z1 : k < p
    · rw [if_pos z1, if_pos (show k.toNat < p.toNat by omega), D _ k0 k1]
    · rw [if_neg z1, if_neg (show ¬ k.toNat < p.toNat by omega)]
      by_cases z2 : k = p
      · rw [if_pos z2, if_pos (show k.toNat = p.toNat by omega), D _ (by omega) r1]
      · rw [if_neg z2, if_neg (show ¬ k.toNat = p.toNat by omega)]
        by_cases z3 : n + p - k = r
        · rw [if_pos z3, if_pos (show n.toNat + p.toNat - k.toNat = r.toNat by omega), D _ p0 (by omega)]
        · rw [if_neg z3, if_neg (show ¬ n.toNat + p.toNat - k.toNat = r.toNat by omega), D _ (by omega) (by omega), show (n + p - k).toNat = n.toNat + p.toNat - k.toNat by omega]
theorem vd_ln {n c : Int} (hn : 2 ≤ n ∧ n ≤ 6) (hc : 0 ≤ c) (h : Vd n n c) : ∃ i, i < fcI n ∧ ((pc n.toNat i : Nat) : Int) = c := by
  have ec : ((c.toNat : Nat) : Int) = c := by omega
  have en : ((n.toNat : Nat) : Int) = n := by omega
  have h1 := qd_nat n.toNat c.toNat n.toNat
  rw [en, ec, h.1] at h1
  have h2 : c.toNat / n.toNat ^ n.toNat = 0 := by omega
  have h3 : c.toNat < n.toNat ^ n.toNat := (Nat.div_eq_zero_iff_lt (Nat.pow_pos (by omega))).mp h2
  obtain ⟨i, i0, i1⟩ := pW (n := n.toNat) (by omega) h3 (fun j k j0 k0 e => by
    have := h.2.2 (j : Int) (k : Int) (by omega) (by omega) (by omega) (by omega) (by
      rw [← ec, dg_nat hn (by omega), dg_nat hn (by omega), Int.toNat_natCast, Int.toNat_natCast, e])
    omega)
  exact ⟨i, i0, by rw [i1]; exact ec⟩
theorem pc_mono {n : Int} (hn : 2 ≤ n ∧ n ≤ 6) {i : Nat} : ∀ d : Nat, i + d < fcI n → pc n.toNat i ≤ pc n.toNat (i + d) ∧ (0 < d → pc n.toNat i < pc n.toNat (i + d))
  | 0, _ => ⟨Nat.le_refl _, fun h => absurd h (Nat.lt_irrefl _)⟩
  | d + 1, h => by
    have h1 := pc_mono (i := i) hn d (by omega)
    have h2 := (ln_next hn (i := i + d) (by omega)).1
    rw [show i + (d + 1) = i + d + 1 by omega]
    omega
