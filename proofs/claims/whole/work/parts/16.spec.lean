/-! what both sides hold as one value, and what each plain call answers and leaves of it -/
/-- the book inside the model at m -/
def MbAt (μ : Mu) (m : Nat) (t : BSt) : Prop := μ m 0 = t.1 ∧ μ m 3 = t.2.1 ∧ μ m 9 = t.2.2.1 ∧ (∀ z : Int, 0 ≤ z → z < 60 → μ (m + 2) z = t.2.2.2.1 z) ∧ Eq6 (μ (m + 3)) t.2.2.2.2.1 ∧ Eq6 (μ (m + 5)) t.2.2.2.2.2.1 ∧ Eq6 (μ (m + 6)) t.2.2.2.2.2.2.1 ∧ Eq6 (μ (m + 4)) t.2.2.2.2.2.2.2.1 ∧ Eq6 (μ (m + 7)) t.2.2.2.2.2.2.2.2
def MoAt (μ : Mu) (m : Nat) (t : BSt) (g : Int → Int) (n : Int) : Prop := MbAt μ m t ∧ μ (m + 1) = g ∧ μ m 1 = n
def LsAt (μ : Mu) (x : Nat) (t : BSt) (g : Int → Int) (n : Int) : Prop := BkAt μ (x + 3) t ∧ μ (x + 1 + 1) = g ∧ μ (x + 1) 1 = n
theorem MoAt.kept {μ μ' : Mu} {m : Nat} {t : BSt} {g : Int → Int} {n : Int} (h : MoAt μ m t g n) (e : ∀ q : Nat, m ≤ q → q < m + 8 → μ' q = μ q) : MoAt μ' m t g n := by
  obtain ⟨⟨h1, h2, h3, h4, h5, h6, h7, h8, h9⟩, hg, hn⟩ := h
  refine ⟨⟨by rw [e m (by omega) (by omega)]; exact h1, by rw [e m (by omega) (by omega)]; exact h2, by rw [e m (by omega) (by omega)]; exact h3, ?_, ?_, ?_, ?_, ?_, ?_⟩, ?_, by rw [e m (by omega) (by omega)]; exact hn⟩ <;> rw [e _ (by omega) (by omega)] <;> assumption
theorem LsAt.kept {μ μ' : Mu} {x : Nat} {t : BSt} {g : Int → Int} {n : Int} (h : LsAt μ x t g n) (e : ∀ q : Nat, x ≤ q → q < x + 33 → μ' q = μ q) : LsAt μ' x t g n :=
  ⟨h.1.kept fun q q1 q2 => e q (by omega) (by omega), by rw [e _ (by omega) (by omega)]; exact h.2.1, by rw [e _ (by omega) (by omega)]; exact h.2.2⟩
theorem Out.trans {μ μ1 μ2 : Mu} {b n : Nat} (h1 : Out μ μ1 b n) (h2 : Out μ1 μ2 b n) : Out μ μ2 b n := fun q hq => (h2 q hq).trans (h1 q hq)
theorem Out.rf {μ : Mu} {b n : Nat} : Out μ μ b n := fun _ _ => rfl
theorem Out.upd {μ : Mu} {b n a : Nat} {z x : Int} (h : b ≤ a ∧ a < b + n) : Out μ (upd2 μ a z x) b n := fun q hq => upd2_row (by omega)
theorem Out.sub {μ μ' : Mu} {b n b' n' : Nat} (h : Out μ μ' b' n') (e : b ≤ b' ∧ b' + n' ≤ b + n) : Out μ μ' b n := fun q hq => h q (by omega)
theorem MoAt.set_L {μ : Mu} {m : Nat} {t : BSt} {g : Int → Int} {n : Int} (h : MoAt μ m t g n) {z v : Int} : MoAt (upd2 μ (m + 3) z v) m (t.1, t.2.1, t.2.2.1, t.2.2.2.1, iup t.2.2.2.2.1 z v, t.2.2.2.2.2.1, t.2.2.2.2.2.2.1, t.2.2.2.2.2.2.2.1, t.2.2.2.2.2.2.2.2) g n := by
  obtain ⟨⟨h1, h2, h3, h4, h5, h6, h7, h8, h9⟩, hg, hn⟩ := h
  refine ⟨⟨?_, ?_, ?_, ?_, ?_, ?_, ?_, ?_, ?_⟩, ?_, ?_⟩
  · first | (rw [upd2_row (by omega)]; exact h1) | (simp [upd2_ap]; exact h1)
  · first | (rw [upd2_row (by omega)]; exact h2) | (simp [upd2_ap]; exact h2)
  · first | (rw [upd2_row (by omega)]; exact h3) | (simp [upd2_ap]; exact h3)
  · rw [upd2_row (by omega)]; exact h4
  · rw [upd2_iup, row_same]; exact iup_eq6 h5 rfl
  · rw [upd2_row (by omega)]; exact h6
  · rw [upd2_row (by omega)]; exact h7
  · rw [upd2_row (by omega)]; exact h8
  · rw [upd2_row (by omega)]; exact h9
  · rw [upd2_row (by omega)]; exact hg
  · first | (rw [upd2_row (by omega)]; exact hn) | (simp [upd2_ap]; exact hn)
theorem MoAt.set_lo {μ : Mu} {m : Nat} {t : BSt} {g : Int → Int} {n : Int} (h : MoAt μ m t g n) {z v : Int} : MoAt (upd2 μ (m + 5) z v) m (t.1, t.2.1, t.2.2.1, t.2.2.2.1, t.2.2.2.2.1, iup t.2.2.2.2.2.1 z v, t.2.2.2.2.2.2.1, t.2.2.2.2.2.2.2.1, t.2.2.2.2.2.2.2.2) g n := by
  obtain ⟨⟨h1, h2, h3, h4, h5, h6, h7, h8, h9⟩, hg, hn⟩ := h
  refine ⟨⟨?_, ?_, ?_, ?_, ?_, ?_, ?_, ?_, ?_⟩, ?_, ?_⟩
  · first | (rw [upd2_row (by omega)]; exact h1) | (simp [upd2_ap]; exact h1)
  · first | (rw [upd2_row (by omega)]; exact h2) | (simp [upd2_ap]; exact h2)
  · first | (rw [upd2_row (by omega)]; exact h3) | (simp [upd2_ap]; exact h3)
  · rw [upd2_row (by omega)]; exact h4
  · rw [upd2_row (by omega)]; exact h5
  · rw [upd2_iup, row_same]; exact iup_eq6 h6 rfl
  · rw [upd2_row (by omega)]; exact h7
  · rw [upd2_row (by omega)]; exact h8
  · rw [upd2_row (by omega)]; exact h9
  · rw [upd2_row (by omega)]; exact hg
  · first | (rw [upd2_row (by omega)]; exact hn) | (simp [upd2_ap]; exact hn)
theorem MoAt.set_hi {μ : Mu} {m : Nat} {t : BSt} {g : Int → Int} {n : Int} (h : MoAt μ m t g n) {z v : Int} : MoAt (upd2 μ (m + 6) z v) m (t.1, t.2.1, t.2.2.1, t.2.2.2.1, t.2.2.2.2.1, t.2.2.2.2.2.1, iup t.2.2.2.2.2.2.1 z v, t.2.2.2.2.2.2.2.1, t.2.2.2.2.2.2.2.2) g n := by
  obtain ⟨⟨h1, h2, h3, h4, h5, h6, h7, h8, h9⟩, hg, hn⟩ := h
  refine ⟨⟨?_, ?_, ?_, ?_, ?_, ?_, ?_, ?_, ?_⟩, ?_, ?_⟩
  · first | (rw [upd2_row (by omega)]; exact h1) | (simp [upd2_ap]; exact h1)
  · first | (rw [upd2_row (by omega)]; exact h2) | (simp [upd2_ap]; exact h2)
  · first | (rw [upd2_row (by omega)]; exact h3) | (simp [upd2_ap]; exact h3)
  · rw [upd2_row (by omega)]; exact h4
  · rw [upd2_row (by omega)]; exact h5
  · rw [upd2_row (by omega)]; exact h6
  · rw [upd2_iup, row_same]; exact iup_eq6 h7 rfl
  · rw [upd2_row (by omega)]; exact h8
  · rw [upd2_row (by omega)]; exact h9
  · rw [upd2_row (by omega)]; exact hg
  · first | (rw [upd2_row (by omega)]; exact hn) | (simp [upd2_ap]; exact hn)
theorem MoAt.set_tl {μ : Mu} {m : Nat} {t : BSt} {g : Int → Int} {n : Int} (h : MoAt μ m t g n) {z v : Int} : MoAt (upd2 μ (m + 4) z v) m (t.1, t.2.1, t.2.2.1, t.2.2.2.1, t.2.2.2.2.1, t.2.2.2.2.2.1, t.2.2.2.2.2.2.1, iup t.2.2.2.2.2.2.2.1 z v, t.2.2.2.2.2.2.2.2) g n := by
  obtain ⟨⟨h1, h2, h3, h4, h5, h6, h7, h8, h9⟩, hg, hn⟩ := h
  refine ⟨⟨?_, ?_, ?_, ?_, ?_, ?_, ?_, ?_, ?_⟩, ?_, ?_⟩
  · first | (rw [upd2_row (by omega)]; exact h1) | (simp [upd2_ap]; exact h1)
  · first | (rw [upd2_row (by omega)]; exact h2) | (simp [upd2_ap]; exact h2)
  · first | (rw [upd2_row (by omega)]; exact h3) | (simp [upd2_ap]; exact h3)
  · rw [upd2_row (by omega)]; exact h4
  · rw [upd2_row (by omega)]; exact h5
  · rw [upd2_row (by omega)]; exact h6
  · rw [upd2_row (by omega)]; exact h7
  · rw [upd2_iup, row_same]; exact iup_eq6 h8 rfl
  · rw [upd2_row (by omega)]; exact h9
  · rw [upd2_row (by omega)]; exact hg
  · first | (rw [upd2_row (by omega)]; exact hn) | (simp [upd2_ap]; exact hn)
theorem MoAt.set_wt {μ : Mu} {m : Nat} {t : BSt} {g : Int → Int} {n : Int} (h : MoAt μ m t g n) {z v : Int} : MoAt (upd2 μ (m + 7) z v) m (t.1, t.2.1, t.2.2.1, t.2.2.2.1, t.2.2.2.2.1, t.2.2.2.2.2.1, t.2.2.2.2.2.2.1, t.2.2.2.2.2.2.2.1, iup t.2.2.2.2.2.2.2.2 z v) g n := by
  obtain ⟨⟨h1, h2, h3, h4, h5, h6, h7, h8, h9⟩, hg, hn⟩ := h
  refine ⟨⟨?_, ?_, ?_, ?_, ?_, ?_, ?_, ?_, ?_⟩, ?_, ?_⟩
  · first | (rw [upd2_row (by omega)]; exact h1) | (simp [upd2_ap]; exact h1)
  · first | (rw [upd2_row (by omega)]; exact h2) | (simp [upd2_ap]; exact h2)
  · first | (rw [upd2_row (by omega)]; exact h3) | (simp [upd2_ap]; exact h3)
  · rw [upd2_row (by omega)]; exact h4
  · rw [upd2_row (by omega)]; exact h5
  · rw [upd2_row (by omega)]; exact h6
  · rw [upd2_row (by omega)]; exact h7
  · rw [upd2_row (by omega)]; exact h8
  · rw [upd2_iup, row_same]; exact iup_eq6 h9 rfl
  · rw [upd2_row (by omega)]; exact hg
  · first | (rw [upd2_row (by omega)]; exact hn) | (simp [upd2_ap]; exact hn)
theorem MoAt.set_n {μ : Mu} {m : Nat} {t : BSt} {g : Int → Int} {n : Int} (h : MoAt μ m t g n) {v : Int} : MoAt (upd2 μ (m) 0 v) m (v, t.2.1, t.2.2.1, t.2.2.2.1, t.2.2.2.2.1, t.2.2.2.2.2.1, t.2.2.2.2.2.2.1, t.2.2.2.2.2.2.2.1, t.2.2.2.2.2.2.2.2) g n := by
  obtain ⟨⟨h1, h2, h3, h4, h5, h6, h7, h8, h9⟩, hg, hn⟩ := h
  refine ⟨⟨?_, ?_, ?_, ?_, ?_, ?_, ?_, ?_, ?_⟩, ?_, ?_⟩
  · simp [upd2_ap]
  · first | (rw [upd2_row (by omega)]; exact h2) | (simp [upd2_ap]; exact h2)
  · first | (rw [upd2_row (by omega)]; exact h3) | (simp [upd2_ap]; exact h3)
  · rw [upd2_row (by omega)]; exact h4
  · rw [upd2_row (by omega)]; exact h5
  · rw [upd2_row (by omega)]; exact h6
  · rw [upd2_row (by omega)]; exact h7
  · rw [upd2_row (by omega)]; exact h8
  · rw [upd2_row (by omega)]; exact h9
  · rw [upd2_row (by omega)]; exact hg
  · first | (rw [upd2_row (by omega)]; exact hn) | (simp [upd2_ap]; exact hn)
theorem MoAt.set_c {μ : Mu} {m : Nat} {t : BSt} {g : Int → Int} {n : Int} (h : MoAt μ m t g n) {v : Int} : MoAt (upd2 μ (m) 3 v) m (t.1, v, t.2.2.1, t.2.2.2.1, t.2.2.2.2.1, t.2.2.2.2.2.1, t.2.2.2.2.2.2.1, t.2.2.2.2.2.2.2.1, t.2.2.2.2.2.2.2.2) g n := by
  obtain ⟨⟨h1, h2, h3, h4, h5, h6, h7, h8, h9⟩, hg, hn⟩ := h
  refine ⟨⟨?_, ?_, ?_, ?_, ?_, ?_, ?_, ?_, ?_⟩, ?_, ?_⟩
  · first | (rw [upd2_row (by omega)]; exact h1) | (simp [upd2_ap]; exact h1)
  · simp [upd2_ap]
  · first | (rw [upd2_row (by omega)]; exact h3) | (simp [upd2_ap]; exact h3)
  · rw [upd2_row (by omega)]; exact h4
  · rw [upd2_row (by omega)]; exact h5
  · rw [upd2_row (by omega)]; exact h6
  · rw [upd2_row (by omega)]; exact h7
  · rw [upd2_row (by omega)]; exact h8
  · rw [upd2_row (by omega)]; exact h9
  · rw [upd2_row (by omega)]; exact hg
  · first | (rw [upd2_row (by omega)]; exact hn) | (simp [upd2_ap]; exact hn)
theorem MoAt.set_l {μ : Mu} {m : Nat} {t : BSt} {g : Int → Int} {n : Int} (h : MoAt μ m t g n) {v : Int} : MoAt (upd2 μ (m) 9 v) m (t.1, t.2.1, v, t.2.2.2.1, t.2.2.2.2.1, t.2.2.2.2.2.1, t.2.2.2.2.2.2.1, t.2.2.2.2.2.2.2.1, t.2.2.2.2.2.2.2.2) g n := by
  obtain ⟨⟨h1, h2, h3, h4, h5, h6, h7, h8, h9⟩, hg, hn⟩ := h
  refine ⟨⟨?_, ?_, ?_, ?_, ?_, ?_, ?_, ?_, ?_⟩, ?_, ?_⟩
  · first | (rw [upd2_row (by omega)]; exact h1) | (simp [upd2_ap]; exact h1)
  · first | (rw [upd2_row (by omega)]; exact h2) | (simp [upd2_ap]; exact h2)
  · simp [upd2_ap]
  · rw [upd2_row (by omega)]; exact h4
  · rw [upd2_row (by omega)]; exact h5
  · rw [upd2_row (by omega)]; exact h6
  · rw [upd2_row (by omega)]; exact h7
  · rw [upd2_row (by omega)]; exact h8
  · rw [upd2_row (by omega)]; exact h9
  · rw [upd2_row (by omega)]; exact hg
  · first | (rw [upd2_row (by omega)]; exact hn) | (simp [upd2_ap]; exact hn)
theorem MoAt.set_g {μ : Mu} {m : Nat} {t : BSt} {g : Int → Int} {n : Int} (h : MoAt μ m t g n) {z v : Int} : MoAt (upd2 μ (m + 1) z v) m t (iup g z v) n := by
  obtain ⟨⟨h1, h2, h3, h4, h5, h6, h7, h8, h9⟩, hg, hn⟩ := h
  refine ⟨⟨?_, ?_, ?_, ?_, ?_, ?_, ?_, ?_, ?_⟩, ?_, ?_⟩
  · first | (rw [upd2_row (by omega)]; exact h1) | (simp [upd2_ap]; exact h1)
  · first | (rw [upd2_row (by omega)]; exact h2) | (simp [upd2_ap]; exact h2)
  · first | (rw [upd2_row (by omega)]; exact h3) | (simp [upd2_ap]; exact h3)
  · rw [upd2_row (by omega)]; exact h4
  · rw [upd2_row (by omega)]; exact h5
  · rw [upd2_row (by omega)]; exact h6
  · rw [upd2_row (by omega)]; exact h7
  · rw [upd2_row (by omega)]; exact h8
  · rw [upd2_row (by omega)]; exact h9
  · rw [upd2_iup, row_same, hg]
  · first | (rw [upd2_row (by omega)]; exact hn) | (simp [upd2_ap]; exact hn)
theorem MoAt.set_sz {μ : Mu} {m : Nat} {t : BSt} {g : Int → Int} {n : Int} (h : MoAt μ m t g n) {v : Int} : MoAt (upd2 μ (m) 1 v) m t g v := by
  obtain ⟨⟨h1, h2, h3, h4, h5, h6, h7, h8, h9⟩, hg, hn⟩ := h
  refine ⟨⟨?_, ?_, ?_, ?_, ?_, ?_, ?_, ?_, ?_⟩, ?_, ?_⟩
  · first | (rw [upd2_row (by omega)]; exact h1) | (simp [upd2_ap]; exact h1)
  · first | (rw [upd2_row (by omega)]; exact h2) | (simp [upd2_ap]; exact h2)
  · first | (rw [upd2_row (by omega)]; exact h3) | (simp [upd2_ap]; exact h3)
  · rw [upd2_row (by omega)]; exact h4
  · rw [upd2_row (by omega)]; exact h5
  · rw [upd2_row (by omega)]; exact h6
  · rw [upd2_row (by omega)]; exact h7
  · rw [upd2_row (by omega)]; exact h8
  · rw [upd2_row (by omega)]; exact h9
  · rw [upd2_row (by omega)]; exact hg
  · simp [upd2_ap]
theorem LsAt.set_L {μ : Mu} {x : Nat} {t : BSt} {g : Int → Int} {n : Int} (h : LsAt μ x t g n) {z v : Int} : LsAt (upd2 μ (x + 3 + 14) z v) x (t.1, t.2.1, t.2.2.1, t.2.2.2.1, iup t.2.2.2.2.1 z v, t.2.2.2.2.2.1, t.2.2.2.2.2.2.1, t.2.2.2.2.2.2.2.1, t.2.2.2.2.2.2.2.2) g n := by
  obtain ⟨⟨h1, h2, h3, h4, h5, h6, h7, h8, h9⟩, hg, hn⟩ := h
  refine ⟨⟨?_, ?_, ?_, ?_, ?_, ?_, ?_, ?_, ?_⟩, ?_, ?_⟩
  · first | (rw [upd2_row (by omega)]; exact h1) | (simp [upd2_ap]; exact h1)
  · first | (rw [upd2_row (by omega)]; exact h2) | (simp [upd2_ap]; exact h2)
  · first | (rw [upd2_row (by omega)]; exact h3) | (simp [upd2_ap]; exact h3)
  · intro i hi j j0 j5; rw [upd2_row (by omega)]; exact h4 i hi j j0 j5
  · rw [upd2_iup, row_same]; exact iup_eq6 h5 rfl
  · rw [upd2_row (by omega)]; exact h6
  · rw [upd2_row (by omega)]; exact h7
  · rw [upd2_row (by omega)]; exact h8
  · rw [upd2_row (by omega)]; exact h9
  · rw [upd2_row (by omega)]; exact hg
  · first | (rw [upd2_row (by omega)]; exact hn) | (simp [upd2_ap]; exact hn)
theorem LsAt.set_lo {μ : Mu} {x : Nat} {t : BSt} {g : Int → Int} {n : Int} (h : LsAt μ x t g n) {z v : Int} : LsAt (upd2 μ (x + 3 + 15) z v) x (t.1, t.2.1, t.2.2.1, t.2.2.2.1, t.2.2.2.2.1, iup t.2.2.2.2.2.1 z v, t.2.2.2.2.2.2.1, t.2.2.2.2.2.2.2.1, t.2.2.2.2.2.2.2.2) g n := by
  obtain ⟨⟨h1, h2, h3, h4, h5, h6, h7, h8, h9⟩, hg, hn⟩ := h
  refine ⟨⟨?_, ?_, ?_, ?_, ?_, ?_, ?_, ?_, ?_⟩, ?_, ?_⟩
  · first | (rw [upd2_row (by omega)]; exact h1) | (simp [upd2_ap]; exact h1)
  · first | (rw [upd2_row (by omega)]; exact h2) | (simp [upd2_ap]; exact h2)
  · first | (rw [upd2_row (by omega)]; exact h3) | (simp [upd2_ap]; exact h3)
  · intro i hi j j0 j5; rw [upd2_row (by omega)]; exact h4 i hi j j0 j5
  · rw [upd2_row (by omega)]; exact h5
  · rw [upd2_iup, row_same]; exact iup_eq6 h6 rfl
  · rw [upd2_row (by omega)]; exact h7
  · rw [upd2_row (by omega)]; exact h8
  · rw [upd2_row (by omega)]; exact h9
  · rw [upd2_row (by omega)]; exact hg
  · first | (rw [upd2_row (by omega)]; exact hn) | (simp [upd2_ap]; exact hn)
theorem LsAt.set_hi {μ : Mu} {x : Nat} {t : BSt} {g : Int → Int} {n : Int} (h : LsAt μ x t g n) {z v : Int} : LsAt (upd2 μ (x + 3 + 16) z v) x (t.1, t.2.1, t.2.2.1, t.2.2.2.1, t.2.2.2.2.1, t.2.2.2.2.2.1, iup t.2.2.2.2.2.2.1 z v, t.2.2.2.2.2.2.2.1, t.2.2.2.2.2.2.2.2) g n := by
  obtain ⟨⟨h1, h2, h3, h4, h5, h6, h7, h8, h9⟩, hg, hn⟩ := h
  refine ⟨⟨?_, ?_, ?_, ?_, ?_, ?_, ?_, ?_, ?_⟩, ?_, ?_⟩
  · first | (rw [upd2_row (by omega)]; exact h1) | (simp [upd2_ap]; exact h1)
  · first | (rw [upd2_row (by omega)]; exact h2) | (simp [upd2_ap]; exact h2)
  · first | (rw [upd2_row (by omega)]; exact h3) | (simp [upd2_ap]; exact h3)
  · intro i hi j j0 j5; rw [upd2_row (by omega)]; exact h4 i hi j j0 j5
  · rw [upd2_row (by omega)]; exact h5
  · rw [upd2_row (by omega)]; exact h6
  · rw [upd2_iup, row_same]; exact iup_eq6 h7 rfl
  · rw [upd2_row (by omega)]; exact h8
  · rw [upd2_row (by omega)]; exact h9
  · rw [upd2_row (by omega)]; exact hg
  · first | (rw [upd2_row (by omega)]; exact hn) | (simp [upd2_ap]; exact hn)
theorem LsAt.set_tl {μ : Mu} {x : Nat} {t : BSt} {g : Int → Int} {n : Int} (h : LsAt μ x t g n) {z v : Int} : LsAt (upd2 μ (x + 3 + 17) z v) x (t.1, t.2.1, t.2.2.1, t.2.2.2.1, t.2.2.2.2.1, t.2.2.2.2.2.1, t.2.2.2.2.2.2.1, iup t.2.2.2.2.2.2.2.1 z v, t.2.2.2.2.2.2.2.2) g n := by
  obtain ⟨⟨h1, h2, h3, h4, h5, h6, h7, h8, h9⟩, hg, hn⟩ := h
  refine ⟨⟨?_, ?_, ?_, ?_, ?_, ?_, ?_, ?_, ?_⟩, ?_, ?_⟩
  · first | (rw [upd2_row (by omega)]; exact h1) | (simp [upd2_ap]; exact h1)
  · first | (rw [upd2_row (by omega)]; exact h2) | (simp [upd2_ap]; exact h2)
  · first | (rw [upd2_row (by omega)]; exact h3) | (simp [upd2_ap]; exact h3)
  · intro i hi j j0 j5; rw [upd2_row (by omega)]; exact h4 i hi j j0 j5
  · rw [upd2_row (by omega)]; exact h5
  · rw [upd2_row (by omega)]; exact h6
  · rw [upd2_row (by omega)]; exact h7
  · rw [upd2_iup, row_same]; exact iup_eq6 h8 rfl
  · rw [upd2_row (by omega)]; exact h9
  · rw [upd2_row (by omega)]; exact hg
  · first | (rw [upd2_row (by omega)]; exact hn) | (simp [upd2_ap]; exact hn)
theorem LsAt.set_wt {μ : Mu} {x : Nat} {t : BSt} {g : Int → Int} {n : Int} (h : LsAt μ x t g n) {z v : Int} : LsAt (upd2 μ (x + 3 + 18) z v) x (t.1, t.2.1, t.2.2.1, t.2.2.2.1, t.2.2.2.2.1, t.2.2.2.2.2.1, t.2.2.2.2.2.2.1, t.2.2.2.2.2.2.2.1, iup t.2.2.2.2.2.2.2.2 z v) g n := by
  obtain ⟨⟨h1, h2, h3, h4, h5, h6, h7, h8, h9⟩, hg, hn⟩ := h
  refine ⟨⟨?_, ?_, ?_, ?_, ?_, ?_, ?_, ?_, ?_⟩, ?_, ?_⟩
  · first | (rw [upd2_row (by omega)]; exact h1) | (simp [upd2_ap]; exact h1)
  · first | (rw [upd2_row (by omega)]; exact h2) | (simp [upd2_ap]; exact h2)
  · first | (rw [upd2_row (by omega)]; exact h3) | (simp [upd2_ap]; exact h3)
  · intro i hi j j0 j5; rw [upd2_row (by omega)]; exact h4 i hi j j0 j5
  · rw [upd2_row (by omega)]; exact h5
  · rw [upd2_row (by omega)]; exact h6
  · rw [upd2_row (by omega)]; exact h7
  · rw [upd2_row (by omega)]; exact h8
  · rw [upd2_iup, row_same]; exact iup_eq6 h9 rfl
  · rw [upd2_row (by omega)]; exact hg
  · first | (rw [upd2_row (by omega)]; exact hn) | (simp [upd2_ap]; exact hn)
theorem LsAt.set_n {μ : Mu} {x : Nat} {t : BSt} {g : Int → Int} {n : Int} (h : LsAt μ x t g n) {v : Int} : LsAt (upd2 μ (x + 3) 6 v) x (v, t.2.1, t.2.2.1, t.2.2.2.1, t.2.2.2.2.1, t.2.2.2.2.2.1, t.2.2.2.2.2.2.1, t.2.2.2.2.2.2.2.1, t.2.2.2.2.2.2.2.2) g n := by
  obtain ⟨⟨h1, h2, h3, h4, h5, h6, h7, h8, h9⟩, hg, hn⟩ := h
  refine ⟨⟨?_, ?_, ?_, ?_, ?_, ?_, ?_, ?_, ?_⟩, ?_, ?_⟩
  · simp [upd2_ap]
  · first | (rw [upd2_row (by omega)]; exact h2) | (simp [upd2_ap]; exact h2)
  · first | (rw [upd2_row (by omega)]; exact h3) | (simp [upd2_ap]; exact h3)
  · intro i hi j j0 j5; rw [upd2_row (by omega)]; exact h4 i hi j j0 j5
  · rw [upd2_row (by omega)]; exact h5
  · rw [upd2_row (by omega)]; exact h6
  · rw [upd2_row (by omega)]; exact h7
  · rw [upd2_row (by omega)]; exact h8
  · rw [upd2_row (by omega)]; exact h9
  · rw [upd2_row (by omega)]; exact hg
  · first | (rw [upd2_row (by omega)]; exact hn) | (simp [upd2_ap]; exact hn)
theorem LsAt.set_c {μ : Mu} {x : Nat} {t : BSt} {g : Int → Int} {n : Int} (h : LsAt μ x t g n) {v : Int} : LsAt (upd2 μ (x + 3) 7 v) x (t.1, v, t.2.2.1, t.2.2.2.1, t.2.2.2.2.1, t.2.2.2.2.2.1, t.2.2.2.2.2.2.1, t.2.2.2.2.2.2.2.1, t.2.2.2.2.2.2.2.2) g n := by
  obtain ⟨⟨h1, h2, h3, h4, h5, h6, h7, h8, h9⟩, hg, hn⟩ := h
  refine ⟨⟨?_, ?_, ?_, ?_, ?_, ?_, ?_, ?_, ?_⟩, ?_, ?_⟩
  · first | (rw [upd2_row (by omega)]; exact h1) | (simp [upd2_ap]; exact h1)
  · simp [upd2_ap]
  · first | (rw [upd2_row (by omega)]; exact h3) | (simp [upd2_ap]; exact h3)
  · intro i hi j j0 j5; rw [upd2_row (by omega)]; exact h4 i hi j j0 j5
  · rw [upd2_row (by omega)]; exact h5
  · rw [upd2_row (by omega)]; exact h6
  · rw [upd2_row (by omega)]; exact h7
  · rw [upd2_row (by omega)]; exact h8
  · rw [upd2_row (by omega)]; exact h9
  · rw [upd2_row (by omega)]; exact hg
  · first | (rw [upd2_row (by omega)]; exact hn) | (simp [upd2_ap]; exact hn)
theorem LsAt.set_l {μ : Mu} {x : Nat} {t : BSt} {g : Int → Int} {n : Int} (h : LsAt μ x t g n) {v : Int} : LsAt (upd2 μ (x + 3) 8 v) x (t.1, t.2.1, v, t.2.2.2.1, t.2.2.2.2.1, t.2.2.2.2.2.1, t.2.2.2.2.2.2.1, t.2.2.2.2.2.2.2.1, t.2.2.2.2.2.2.2.2) g n := by
  obtain ⟨⟨h1, h2, h3, h4, h5, h6, h7, h8, h9⟩, hg, hn⟩ := h
  refine ⟨⟨?_, ?_, ?_, ?_, ?_, ?_, ?_, ?_, ?_⟩, ?_, ?_⟩
  · first | (rw [upd2_row (by omega)]; exact h1) | (simp [upd2_ap]; exact h1)
  · first | (rw [upd2_row (by omega)]; exact h2) | (simp [upd2_ap]; exact h2)
  · simp [upd2_ap]
  · intro i hi j j0 j5; rw [upd2_row (by omega)]; exact h4 i hi j j0 j5
  · rw [upd2_row (by omega)]; exact h5
  · rw [upd2_row (by omega)]; exact h6
  · rw [upd2_row (by omega)]; exact h7
  · rw [upd2_row (by omega)]; exact h8
  · rw [upd2_row (by omega)]; exact h9
  · rw [upd2_row (by omega)]; exact hg
  · first | (rw [upd2_row (by omega)]; exact hn) | (simp [upd2_ap]; exact hn)
theorem LsAt.set_g {μ : Mu} {x : Nat} {t : BSt} {g : Int → Int} {n : Int} (h : LsAt μ x t g n) {z v : Int} : LsAt (upd2 μ (x + 1 + 1) z v) x t (iup g z v) n := by
  obtain ⟨⟨h1, h2, h3, h4, h5, h6, h7, h8, h9⟩, hg, hn⟩ := h
  refine ⟨⟨?_, ?_, ?_, ?_, ?_, ?_, ?_, ?_, ?_⟩, ?_, ?_⟩
  · first | (rw [upd2_row (by omega)]; exact h1) | (simp [upd2_ap]; exact h1)
  · first | (rw [upd2_row (by omega)]; exact h2) | (simp [upd2_ap]; exact h2)
  · first | (rw [upd2_row (by omega)]; exact h3) | (simp [upd2_ap]; exact h3)
  · intro i hi j j0 j5; rw [upd2_row (by omega)]; exact h4 i hi j j0 j5
  · rw [upd2_row (by omega)]; exact h5
  · rw [upd2_row (by omega)]; exact h6
  · rw [upd2_row (by omega)]; exact h7
  · rw [upd2_row (by omega)]; exact h8
  · rw [upd2_row (by omega)]; exact h9
  · rw [upd2_iup, row_same, hg]
  · first | (rw [upd2_row (by omega)]; exact hn) | (simp [upd2_ap]; exact hn)
theorem LsAt.set_sz {μ : Mu} {x : Nat} {t : BSt} {g : Int → Int} {n : Int} (h : LsAt μ x t g n) {v : Int} : LsAt (upd2 μ (x + 1) 1 v) x t g v := by
  obtain ⟨⟨h1, h2, h3, h4, h5, h6, h7, h8, h9⟩, hg, hn⟩ := h
  refine ⟨⟨?_, ?_, ?_, ?_, ?_, ?_, ?_, ?_, ?_⟩, ?_, ?_⟩
  · first | (rw [upd2_row (by omega)]; exact h1) | (simp [upd2_ap]; exact h1)
  · first | (rw [upd2_row (by omega)]; exact h2) | (simp [upd2_ap]; exact h2)
  · first | (rw [upd2_row (by omega)]; exact h3) | (simp [upd2_ap]; exact h3)
  · intro i hi j j0 j5; rw [upd2_row (by omega)]; exact h4 i hi j j0 j5
  · rw [upd2_row (by omega)]; exact h5
  · rw [upd2_row (by omega)]; exact h6
  · rw [upd2_row (by omega)]; exact h7
  · rw [upd2_row (by omega)]; exact h8
  · rw [upd2_row (by omega)]; exact h9
  · rw [upd2_row (by omega)]; exact hg
  · simp [upd2_ap]
/-- ranges: B bounds the lifts -/
def StOk (t : BSt) (B : Int) : Prop := (2 ≤ t.1 ∧ t.1 ≤ 6) ∧ (0 ≤ t.2.1 ∧ t.2.1 ≤ 12) ∧ (0 ≤ t.2.2.1 ∧ t.2.2.1 ≤ 20) ∧ (∀ k : Int, 0 ≤ k → k < t.2.1 → (0 ≤ t.2.2.2.1 (5 * k) ∧ t.2.2.2.1 (5 * k) < t.1) ∧ (0 ≤ t.2.2.2.1 (5 * k + 1) ∧ t.2.2.2.1 (5 * k + 1) < t.1) ∧ t.2.2.2.1 (5 * k) ≠ t.2.2.2.1 (5 * k + 1) ∧ (0 ≤ t.2.2.2.1 (5 * k + 2) ∧ t.2.2.2.1 (5 * k + 2) ≤ 2) ∧ (0 ≤ t.2.2.2.1 (5 * k + 3) ∧ t.2.2.2.1 (5 * k + 3) ≤ B) ∧ (0 ≤ t.2.2.2.1 (5 * k + 4) ∧ t.2.2.2.1 (5 * k + 4) ≤ B)) ∧ ∀ i : Int, 0 ≤ i → i < 6 → (0 ≤ t.2.2.2.2.1 i ∧ t.2.2.2.2.1 i ≤ B) ∧ (0 ≤ t.2.2.2.2.2.1 i ∧ t.2.2.2.2.2.1 i ≤ t.2.2.2.2.2.2.1 i ∧ t.2.2.2.2.2.2.1 i ≤ 999) ∧ (0 ≤ t.2.2.2.2.2.2.2.1 i ∧ t.2.2.2.2.2.2.2.1 i ≤ 99) ∧ (0 ≤ t.2.2.2.2.2.2.2.2 i ∧ t.2.2.2.2.2.2.2.2 i ≤ 99)
def PadOk (g : Int → Int) (n : Int) : Prop := (0 ≤ n ∧ n ≤ 40) ∧ ∀ i : Int, 0 ≤ i → i < 40 → -1000 ≤ g i ∧ g i ≤ 1000
def sp_sacks (t : BSt) (a : Int) : Int × BSt := if 2 ≤ a ∧ a ≤ 6 then (t.1, (a, 0, t.2.2.1, t.2.2.2.1, (fun _ => 0), (fun _ => 0), (fun _ => 999), t.2.2.2.2.2.2.2.1, t.2.2.2.2.2.2.2.2)) else (-2, t)
def sp_say (g : Int → Int) (n a : Int) : Int × (Int → Int) × Int := if 33 ≤ a ∧ a ≤ 126 then (if n = 40 then (-4, g, n) else (n + 1, iup g n a, n + 1)) else (-2, g, n)
noncomputable def sp_fault (t : BSt) (g : Int → Int) (n : Int) : Int := ffd g t.1 n 41 0
def sp_lnd (t : BSt) (g : Int → Int) (n : Int) : LSt := lnd g n 41 2 (t.2.2.2.1, iup t.2.2.2.2.1 (g 0 - 97) (t.2.2.2.2.1 (g 0 - 97) + 1), t.2.1)
noncomputable def sp_line (t : BSt) (g : Int → Int) (n : Int) : Int × BSt × Int := if 0 ≤ sp_fault t g n then (-5, t, n) else if 12 < t.2.1 + n / 2 then (-4, t, n) else ((sp_lnd t g n).2.2, (t.1, (sp_lnd t g n).2.2, t.2.2.1, (sp_lnd t g n).1, (sp_lnd t g n).2.1, t.2.2.2.2.2.1, t.2.2.2.2.2.2.1, t.2.2.2.2.2.2.2.1, t.2.2.2.2.2.2.2.2), 0)
def sp_strike (t : BSt) : Int × BSt := if t.2.1 = 0 then (-5, t) else (t.2.1 - 1, (t.1, t.2.1 - 1, t.2.2.1, t.2.2.2.1, t.2.2.2.2.1, t.2.2.2.2.2.1, t.2.2.2.2.2.2.1, t.2.2.2.2.2.2.2.1, t.2.2.2.2.2.2.2.2))
def sp_saying (t : BSt) (i w : Int) : Int := if 0 ≤ i ∧ i < t.2.1 then (if 0 ≤ w ∧ w ≤ 4 then t.2.2.2.1 (5 * i + w) else -2) else -1
def sp_toll (t : BSt) (r v : Int) : Int × BSt := if (0 ≤ r ∧ r ≤ 5) ∧ 0 ≤ v ∧ v ≤ 99 then (t.2.2.2.2.2.2.2.1 r, (t.1, t.2.1, t.2.2.1, t.2.2.2.1, t.2.2.2.2.1, t.2.2.2.2.2.1, t.2.2.2.2.2.2.1, iup t.2.2.2.2.2.2.2.1 r v, t.2.2.2.2.2.2.2.2)) else (-2, t)
def sp_known (t : BSt) (s a b : Int) : Int × BSt := if 0 ≤ s ∧ s < t.1 then (if 0 ≤ a ∧ a ≤ b ∧ b ≤ 999 then (1, (t.1, t.2.1, t.2.2.1, t.2.2.2.1, t.2.2.2.2.1, iup t.2.2.2.2.2.1 s a, iup t.2.2.2.2.2.2.1 s b, t.2.2.2.2.2.2.2.1, t.2.2.2.2.2.2.2.2)) else (-2, t)) else (-1, t)
def sp_loss (t : BSt) (v : Int) : Int × BSt := if 0 ≤ v ∧ v ≤ 20 then (t.2.2.1, (t.1, t.2.1, v, t.2.2.2.1, t.2.2.2.2.1, t.2.2.2.2.2.1, t.2.2.2.2.2.2.1, t.2.2.2.2.2.2.2.1, t.2.2.2.2.2.2.2.2)) else (-2, t)
def sp_weight (t : BSt) (s v : Int) : Int × BSt := if 0 ≤ s ∧ s < t.1 then (if 0 ≤ v ∧ v ≤ 99 then (t.2.2.2.2.2.2.2.2 s, (t.1, t.2.1, t.2.2.1, t.2.2.2.1, t.2.2.2.2.1, t.2.2.2.2.2.1, t.2.2.2.2.2.2.1, t.2.2.2.2.2.2.2.1, iup t.2.2.2.2.2.2.2.2 s v)) else (-2, t)) else (-1, t)
def sp_told (t : BSt) (n w : Int) : Int := if w = 0 then n else if w = 1 then t.1 else if w = 2 then t.2.1 else if w = 3 then t.2.2.1 else if 10 ≤ w ∧ w ≤ 15 then t.2.2.2.2.2.2.2.1 (w - 10) else if 20 ≤ w ∧ w < 20 + t.1 then t.2.2.2.2.2.2.2.2 (w - 20) else if 30 ≤ w ∧ w < 30 + t.1 then t.2.2.2.2.1 (w - 30) else if 40 ≤ w ∧ w < 40 + t.1 then t.2.2.2.2.2.1 (w - 40) else if 50 ≤ w ∧ w < 50 + t.1 then t.2.2.2.2.2.2.1 (w - 50) else -2
