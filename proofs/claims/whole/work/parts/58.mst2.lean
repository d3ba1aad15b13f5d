/-! the model: all stands, their values, by rounds; which sack next -/
/-- what is known after g was laid where y lay -/
def LdW (gn w y g sd w' : Int) : Prop := (¬ OpR gn (RB w) y g → w' = w) ∧ (OpR gn (RB w) y g → JB w (if sd = 0 then g else y) (if sd = 0 then y else g) w')
theorem LdW.un {gn w y g sd w1 w2 : Int} (h : LdW gn w y g sd w1) (h' : LdW gn w y g sd w2) : w1 = w2 := by
  by_cases q : OpR gn (RB w) y g
  · exact (h.2 q).un (h'.2 q)
  · rw [h.1 q, h'.1 q]
theorem LdW.nz {gn w y g sd w1 : Int} (h : LdW gn w y g sd w1) (hs : sd ≠ 0) : LdW gn w y g 1 w1 := by
  refine ⟨h.1, fun q => ?_⟩
  have := h.2 q
  rw [if_neg hs, if_neg hs] at this
  exact this
def HasK (μ : Mu) (m : Nat) (w g : Int) : Prop := ∃ j : Int, (0 ≤ j ∧ j < μ m 17) ∧ μ (m + 13) j = w ∧ μ (m + 14) j = g
def Dn (μ : Mu) (m : Nat) (gn k g : Int) : Prop := ∀ g' : Int, 0 ≤ g' → g' < g → g' ≠ μ (m + 14) k → ∀ sd w' : Int, LdW gn (μ (m + 13) k) (μ (m + 14) k) g' sd w' → HasK μ m w' g'
def DnA (μ : Mu) (m : Nat) (gn k : Int) : Prop := (WhR gn (RB (μ (m + 13) k)) → μ (m + 15) k = 0) ∧ (¬ WhR gn (RB (μ (m + 13) k)) → μ (m + 15) k = -6 ∧ Dn μ m gn k gn)
theorem StP.has {μ μ' : Mu} {m : Nat} {gn a y z w g : Int} (h : StP μ μ' m gn a y z) (q : HasK μ m w g) : HasK μ' m w g := by
  obtain ⟨j, j0, j1, j2⟩ := q
  have e := h.2.2.2.1 j j0.1 j0.2
  have := h.2.2.1
  exact ⟨j, by omega, by rw [e.1]; exact j1, by rw [e.2.1]; exact j2⟩
theorem StP.dn {μ μ' : Mu} {m : Nat} {gn a y z k g : Int} (h : StP μ μ' m gn a y z) (hk : 0 ≤ k ∧ k < μ m 17) (q : Dn μ m gn k g) : Dn μ' m gn k g := by
  have e := h.2.2.2.1 k hk.1 hk.2
  intro g' g0 g1 g2 sd w' hw
  rw [e.1, e.2.1] at hw
  rw [e.2.1] at g2
  exact h.has (q g' g0 g1 g2 sd w' hw)
theorem StP.dna {μ μ' : Mu} {m : Nat} {gn a y z k : Int} (h : StP μ μ' m gn a y z) (hk : 0 ≤ k ∧ k < μ m 17) (q : DnA μ m gn k) : DnA μ' m gn k := by
  have e := h.2.2.2.1 k hk.1 hk.2
  unfold DnA
  rw [e.1, e.2.2]
  exact ⟨q.1, fun z => ⟨(q.2 z).1, h.dn hk (q.2 z).2⟩⟩
theorem Dn.val {μ : Mu} {m : Nat} {gn k g i v : Int} (h : Dn μ m gn k g) : Dn (upd2 μ (m + 15) i v) m gn k g := by
  have e : ∀ q : Nat, q ≠ m + 15 → upd2 μ (m + 15) i v q = μ q := fun q hq => upd2_row hq
  unfold Dn HasK
  rw [e (m + 13) (by omega), e (m + 14) (by omega), e m (by omega)]
  exact h
theorem TbA.val {μ : Mu} {m : Nat} {gn i v : Int} (h : TbA μ m gn) : TbA (upd2 μ (m + 15) i v) m gn := by
  have e : ∀ q : Nat, q ≠ m + 15 → upd2 μ (m + 15) i v q = μ q := fun q hq => upd2_row hq
  unfold TbA
  rw [e (m + 13) (by omega), e (m + 14) (by omega), e m (by omega), e (m + 16) (by omega)]
  exact h
/-- laying the stands under way: those before k are done -/
def LyS (μ0 μ : Mu) (m : Nat) (gn a y k : Int) : Prop := TbA μ m gn ∧ ((0 ≤ k ∧ k ≤ μ m 17) ∧ 1 ≤ μ m 17) ∧ (μ (m + 13) 0 = a ∧ μ (m + 14) 0 = y) ∧ (∀ k' : Int, 0 ≤ k' → k' < k → DnA μ m gn k') ∧ (∀ q : Nat, q ≠ m → q ≠ m + 13 → q ≠ m + 14 → q ≠ m + 15 → q ≠ m + 16 → μ q = μ0 q) ∧ ∀ i : Int, i ≠ 17 → μ m i = μ0 m i
theorem LyS.stp {μ0 μ μ' : Mu} {m : Nat} {gn a y k b u z : Int} (h : LyS μ0 μ m gn a y k) (s : StP μ μ' m gn b u z) : LyS μ0 μ' m gn a y k := by
  obtain ⟨h1, h2, h3, h4, h5, h6⟩ := h
  have e := s.2.2.2.1 0 (by omega) (by omega)
  have hn := s.2.2.1
  refine ⟨s.1, by omega, by rw [e.1, e.2.1]; exact h3, fun k' k0 k1 => s.dna ⟨k0, by omega⟩ (h4 k' k0 k1), fun q q0 q1 q2 q3 q4 => (s.2.2.2.2.2.1 q q0 q1 q2 q3 q4).trans (h5 q q0 q1 q2 q3 q4), fun i hi => (s.2.2.2.2.2.2 i hi).trans (h6 i hi)⟩
theorem LyS.val {μ0 μ : Mu} {m : Nat} {gn a y k v : Int} (h : LyS μ0 μ m gn a y k) : LyS μ0 (upd2 μ (m + 15) k v) m gn a y k := by
  have e : ∀ q : Nat, q ≠ m + 15 → upd2 μ (m + 15) k v q = μ q := fun q hq => upd2_row hq
  obtain ⟨h1, h2, h3, h4, h5, h6⟩ := h
  refine ⟨h1.val, by rw [e m (by omega)]; exact h2, by rw [e (m + 13) (by omega), e (m + 14) (by omega)]; exact h3, fun k' k0 k1 => ?_, fun q q0 q1 q2 q3 q4 => (e q q3).trans (h5 q q0 q1 q2 q3 q4), fun i hi => by rw [e m (by omega)]; exact h6 i hi⟩
  have := h4 k' k0 k1
  unfold DnA at this ⊢
  rw [e (m + 13) (by omega), upd2_ap, if_neg (by omega)]
  exact ⟨this.1, fun z => ⟨(this.2 z).1, (this.2 z).2.val⟩⟩
theorem LyS.next {μ0 μ : Mu} {m : Nat} {gn a y k : Int} (h : LyS μ0 μ m gn a y k) (hk : k < μ m 17) (hd : DnA μ m gn k) : LyS μ0 μ m gn a y (k + 1) := by
  obtain ⟨h1, h2, h3, h4, h5, h6⟩ := h
  refine ⟨h1, by omega, h3, fun k' k0 k1 => ?_, h5, h6⟩
  by_cases e : k' = k
  · rw [e]; exact hd
  · exact h4 k' k0 (by omega)
theorem Dn.step {μ : Mu} {m : Nat} {gn k g w1 w2 : Int} (h : Dn μ m gn k g) (l1 : LdW gn (μ (m + 13) k) (μ (m + 14) k) g 0 w1) (l2 : LdW gn (μ (m + 13) k) (μ (m + 14) k) g 1 w2) (h1 : HasK μ m w1 g) (h2 : HasK μ m w2 g) : Dn μ m gn k (g + 1) := by
  intro g' g0 g1 g2 sd w' hw
  by_cases e : g' = g
  · subst e
    by_cases q : sd = 0
    · subst q; rw [hw.un l1]; exact h1
    · rw [(hw.nz q).un l2]; exact h2
  · exact h g' g0 (by omega) g2 sd w' hw
theorem Dn.skip {μ : Mu} {m : Nat} {gn k g : Int} (h : Dn μ m gn k g) (e : g = μ (m + 14) k) : Dn μ m gn k (g + 1) := by
  intro g' g0 g1 g2 sd w' hw
  by_cases q : g' = g
  · exact absurd (q.trans e) g2
  · exact h g' g0 (by omega) g2 sd w' hw
theorem StP.key {μ μ' : Mu} {m : Nat} {gn a y z : Int} (h : StP μ μ' m gn a y z) : HasK μ' m a y := ⟨z, h.2.1.1, h.2.1.2⟩
/-- what does asks -/
def DoP (μ : Mu) (m : Nat) (gn k g r : Int) : Prop := g ≠ μ (m + 14) k ∧ ∀ sd w' j : Int, LdW gn (μ (m + 13) k) (μ (m + 14) k) g sd w' → (0 ≤ j ∧ j < μ m 17) → μ (m + 13) j = w' → μ (m + 14) j = g → (0 ≤ μ (m + 15) j ∧ μ (m + 15) j ≤ r)
theorem DoP_of {μ : Mu} {m : Nat} {gn k g r w1 w2 z1 z2 : Int} (hT : TbA μ m gn) (hne : g ≠ μ (m + 14) k) (l1 : LdW gn (μ (m + 13) k) (μ (m + 14) k) g 0 w1) (l2 : LdW gn (μ (m + 13) k) (μ (m + 14) k) g 1 w2) (h1 : (0 ≤ z1 ∧ z1 < μ m 17) ∧ μ (m + 13) z1 = w1 ∧ μ (m + 14) z1 = g) (h2 : (0 ≤ z2 ∧ z2 < μ m 17) ∧ μ (m + 13) z2 = w2 ∧ μ (m + 14) z2 = g) : DoP μ m gn k g r ↔ ((0 ≤ μ (m + 15) z1 ∧ μ (m + 15) z1 ≤ r) ∧ (0 ≤ μ (m + 15) z2 ∧ μ (m + 15) z2 ≤ r)) := by
  constructor
  · intro h
    exact ⟨h.2 0 w1 z1 l1 h1.1 h1.2.1 h1.2.2, h.2 1 w2 z2 l2 h2.1 h2.2.1 h2.2.2⟩
  · rintro ⟨q1, q2⟩
    refine ⟨hne, fun sd w' j hw hj e1 e2 => ?_⟩
    by_cases q : sd = 0
    · subst q
      have := hT.2.2.2.2.1 j z1 hj.1 hj.2 h1.1.1 h1.1.2 (by rw [e1, h1.2.1]; exact hw.un l1) (by rw [e2, h1.2.2])
      rw [this]; exact q1
    · have := hT.2.2.2.2.1 j z2 hj.1 hj.2 h2.1.1 h2.1.2 (by rw [e1, h2.2.1]; exact (hw.nz q).un l2) (by rw [e2, h2.2.2])
      rw [this]; exact q2
/-- the values known after r rounds -/
noncomputable def VlK (μ : Mu) (m : Nat) (gn k : Int) : Int := (vl gn (RB (μ (m + 13) k)) (μ (m + 14) k) : Int)
def VM (μ : Mu) (m : Nat) (gn r k : Int) : Prop := ∀ j : Int, 0 ≤ j → j < μ m 17 → μ (m + 15) j = if VlK μ m gn j ≤ (if j < k then r + 1 else r) then VlK μ m gn j else -6
theorem VM.iff {μ : Mu} {m : Nat} {gn r k j : Int} (h : VM μ m gn r k) (hj : 0 ≤ j ∧ j < μ m 17) : (0 ≤ μ (m + 15) j ∧ μ (m + 15) j ≤ r) ↔ VlK μ m gn j ≤ r := by
  have e := h j hj.1 hj.2
  have n0 : 0 ≤ VlK μ m gn j := by unfold VlK; omega
  rw [e]
  by_cases q : j < k
  · rw [if_pos q]
    by_cases q2 : VlK μ m gn j ≤ r + 1
    · rw [if_pos q2]; omega
    · rw [if_neg q2]; omega
  · rw [if_neg q]
    by_cases q2 : VlK μ m gn j ≤ r
    · rw [if_pos q2]; omega
    · rw [if_neg q2]; omega
theorem DoP_sgv {μ : Mu} {m : Nat} {gn k g r i : Int} (hn : 1 ≤ gn ∧ gn ≤ 5) (hT : TbA μ m gn) (hk : 0 ≤ k ∧ k < μ m 17) (hg : 0 ≤ g ∧ g < gn) (hD : Dn μ m gn k gn) (hV : VM μ m gn r i) (hr : 0 ≤ r) : DoP μ m gn k g r ↔ g ≠ μ (m + 14) k ∧ (sgv gn (RB (μ (m + 13) k)) (μ (m + 14) k) g : Int) ≤ r + 1 := by
  have hok := (hT.2.2.2.2.2 k hk.1 hk.2).1
  by_cases hne : g = μ (m + 14) k
  · exact ⟨fun q => absurd hne q.1, fun q => absurd hne q.1⟩
  · by_cases ho : OpR gn (RB (μ (m + 13) k)) (μ (m + 14) k) g
    · -- two ways
      have mk : ∀ a c : Int, (0 ≤ a ∧ a < gn) → (0 ≤ c ∧ c < gn) → a ≠ c → ∃ w' : Int, W25 w' ∧ JB (μ (m + 13) k) a c w' := fun a c ha hc ne => by
        have : ∃ w' : Int, WJ (μ (m + 13) k) a c gn 0 w' := by
          have st : ∀ (i j : Nat), i ≤ 5 → j ≤ 5 → ∃ r : Int, WJ (μ (m + 13) k) a c i j r := fun i => by
            induction i with
            | zero =>
              intro j
              induction j with
              | zero => intro _ _; exact ⟨_, WJ_0 hok.1⟩
              | succ j ihj =>
                intro h1 h2
                obtain ⟨r, hr⟩ := ihj h1 (by omega)
                by_cases q : ((((0 : Nat) : Int) = a ∨ tb (μ (m + 13) k) (5 * ((0 : Nat) : Int) + a)) ∧ ((j : Int) = c ∨ tb (μ (m + 13) k) (5 * c + (j : Int))))
                · exact ⟨_, WJ_yes hr (by omega) (by omega) q.1 q.2⟩
                · exact ⟨_, WJ_no hr q⟩
            | succ i ihi =>
              intro j
              induction j with
              | zero =>
                intro h1 h2
                obtain ⟨r, hr⟩ := ihi gn.toNat (by omega) (by omega)
                rw [show ((gn.toNat : Nat) : Int) = gn by omega] at hr
                exact ⟨r, WJ_next hok hc hr rfl⟩
              | succ j ihj =>
                intro h1 h2
                obtain ⟨r, hr⟩ := ihj h1 (by omega)
                by_cases i5 : i + 1 < 5
                · by_cases q : ((((i + 1 : Nat) : Int) = a ∨ tb (μ (m + 13) k) (5 * ((i + 1 : Nat) : Int) + a)) ∧ ((j : Int) = c ∨ tb (μ (m + 13) k) (5 * c + (j : Int))))
                  · exact ⟨_, WJ_yes hr (by omega) (by omega) q.1 q.2⟩
                  · exact ⟨_, WJ_no hr q⟩
                · exact ⟨r, hr.1, fun a' c' a0 a1 c0 c1 => (hr.2 a' c' a0 a1 c0 c1).trans ⟨fun q => q.imp id (fun q => ⟨by omega, q.2⟩), fun q => q.imp id (fun q => ⟨by omega, q.2⟩)⟩⟩
          obtain ⟨r, hr⟩ := st gn.toNat 0 (by omega) (by omega)
          rw [show ((gn.toNat : Nat) : Int) = gn by omega] at hr
          exact ⟨r, hr⟩
        obtain ⟨r, hr⟩ := this
        exact ⟨r, hr.1, WJ_JB hok hn.2 ha hc hr⟩
      obtain ⟨w1, -, j1⟩ := mk g (μ (m + 14) k) hg ho.1 hne
      obtain ⟨w2, -, j2⟩ := mk (μ (m + 14) k) g ho.1 hg (fun e => hne e.symm)
      have l1 : LdW gn (μ (m + 13) k) (μ (m + 14) k) g 0 w1 := ⟨fun q => absurd ho q, fun _ => j1⟩
      have l2 : LdW gn (μ (m + 13) k) (μ (m + 14) k) g 1 w2 := ⟨fun q => absurd ho q, fun _ => j2⟩
      obtain ⟨z1, a1, a2, a3⟩ := hD g hg.1 hg.2 hne 0 w1 l1
      obtain ⟨z2, b1, b2, b3⟩ := hD g hg.1 hg.2 hne 1 w2 l2
      rw [DoP_of hT hne l1 l2 ⟨a1, a2, a3⟩ ⟨b1, b2, b3⟩, hV.iff a1, hV.iff b1, sgv_o ho]
      unfold VlK
      rw [a2, a3, b2, b3, j1.2, j2.2]
      constructor
      · rintro ⟨q1, q2⟩; exact ⟨hne, by omega⟩
      · rintro ⟨-, q⟩; omega
    · have l1 : ∀ sd : Int, LdW gn (μ (m + 13) k) (μ (m + 14) k) g sd (μ (m + 13) k) := fun sd => ⟨fun _ => rfl, fun q => absurd q ho⟩
      obtain ⟨z1, a1, a2, a3⟩ := hD g hg.1 hg.2 hne 0 _ (l1 0)
      rw [DoP_of hT hne (l1 0) (l1 1) ⟨a1, a2, a3⟩ ⟨a1, a2, a3⟩, hV.iff a1, sgv_n ho]
      unfold VlK
      rw [a2, a3]
      constructor
      · rintro ⟨q1, q2⟩; exact ⟨hne, by omega⟩
      · rintro ⟨-, q⟩; omega
theorem upd2_id {μ : Mu} {a : Nat} {z x : Int} (h : μ a z = x) : upd2 μ a z x = μ := by
  funext q i
  rw [upd2_ap]
  by_cases e : q = a ∧ i = z
  · rw [if_pos e, e.1, e.2, h]
  · rw [if_neg e]
theorem VM.put {μ : Mu} {m : Nat} {gn r k v : Int} (h : VM μ m gn r k) (hv : v = if VlK μ m gn k ≤ r + 1 then VlK μ m gn k else -6) : VM (upd2 μ (m + 15) k v) m gn r (k + 1) := by
  have e : ∀ q : Nat, q ≠ m + 15 → upd2 μ (m + 15) k v q = μ q := fun q hq => upd2_row hq
  intro j j0 j1
  unfold VlK
  rw [e m (by omega)] at j1
  rw [e (m + 13) (by omega), e (m + 14) (by omega), upd2_ap]
  by_cases q : j = k
  · rw [if_pos ⟨rfl, q⟩, q, if_pos (show k < k + 1 by omega)]; exact hv
  · rw [if_neg (fun z => q z.2)]
    have := h j j0 j1
    unfold VlK at this
    rw [this]
    by_cases q2 : j < k
    · rw [if_pos q2, if_pos (show j < k + 1 by omega)]
    · rw [if_neg q2, if_neg (show ¬ j < k + 1 by omega)]
theorem VM.same {μ : Mu} {m : Nat} {gn r k : Int} (h : VM μ m gn r k) (hv : 0 ≤ k → k < μ m 17 → μ (m + 15) k = if VlK μ m gn k ≤ r + 1 then VlK μ m gn k else -6) : VM μ m gn r (k + 1) := by
  intro j j0 j1
  by_cases q : j = k
  · rw [q, if_pos (show k < k + 1 by omega)]; exact hv (by omega) (by omega)
  · rw [h j j0 j1]
    by_cases q2 : j < k
    · rw [if_pos q2, if_pos (show j < k + 1 by omega)]
    · rw [if_neg q2, if_neg (show ¬ j < k + 1 by omega)]
theorem VM.round {μ : Mu} {m : Nat} {gn r : Int} (h : VM μ m gn r (μ m 17)) : VM μ m gn (r + 1) 0 := by
  intro j j0 j1
  rw [h j j0 j1, if_pos j1, if_neg (show ¬ j < 0 by omega)]
section MST2
variable {l : Launch} {G : Glb} {S : Sh} {μ : Mu} {m : Nat} {gn : Int}
set_option maxHeartbeats 4000000 in
set_option maxRecDepth 100000 in
theorem c_X8_laid {k g sd : Int} (hM : ModS S m) (hg : μ m 13 = gn) (hn : 1 ≤ gn ∧ gn ≤ 5) (hT : TbA μ m gn) (hk : 0 ≤ k ∧ k < μ m 17) (hgr : 0 ≤ g ∧ g < gn) (hne : g ≠ μ (m + 14) k) (hsd : sd = 0 ∨ sd = 1) : Ct l G cX8_laid (yX8_laid, 6, (some FieldType.int), 2, 0, 0) [.ref m, vi k, vi g, vi sd] S μ (Re S (fun z μ' => ∃ w' : Int, LdW gn (μ (m + 13) k) (μ (m + 14) k) g sd w' ∧ StP μ μ' m gn w' g z)) := by
  have kr := hT.2.2.2.2.2 k hk.1 hk.2
  have nr := hT.1
  refine Ct.of (by decide) rfl (by simp [vi, Value.category]) (Nat.le_of_ble_eq_true rfl) ?_
  refine v_aload_n aX8_laid_0 rfl ?_
  refine v_getr aX8_laid_1 fX8_54 hM.p rfl rfl ?_
  refine v_iload_n aX8_laid_4 rfl ?_
  refine v_iald aX8_laid_5 hM.p_lying (by omega) (by decide) ?_
  refine v_istore aX8_laid_6 (by decide) rfl ?_
  refine v_aload_n aX8_laid_8 rfl ?_
  refine v_getr aX8_laid_9 fX8_51 hM.p rfl rfl ?_
  refine v_iload_n aX8_laid_12 rfl ?_
  refine v_iald aX8_laid_13 hM.p_known (by omega) (by decide) ?_
  refine v_istore aX8_laid_14 (by decide) rfl ?_
  refine v_iload aX8_laid_16 rfl ?_
  refine v_iconst aX8_laid_18 ?_
  refine v_icmp_eq 44 rfl aX8_laid_19 (by omega) (by omega) (fun c19 => ?_) (fun c19 => ?_)
  · --
    refine v_aload_n aX8_laid_44 rfl ?_
    refine v_iload aX8_laid_45 rfl ?_
    refine v_iload_n aX8_laid_47 rfl ?_
    refine v_cVe (c_X8_stand hM hn hT kr.1 (Or.inl hgr)) aX8_laid_48 mX8_stand vX8_stand lX8_145 hM.p rfl rfl rfl rfl rfl (Nat.le_of_ble_eq_true rfl) ⟨Nat.le_of_ble_eq_true rfl, Nat.le_of_ble_eq_true rfl⟩ (Nat.le_of_ble_eq_true rfl) (fun z μ' hz => ?_)
    refine v_ireturn aX8_laid_51 rfl ⟨Nat.le_refl _, Nat.le_refl _⟩ ?_
    exact ⟨z, rfl, rfl, _, ⟨fun _ => rfl, fun q => absurd q (fun q => by have := q.1; omega)⟩, hz⟩
  · --
    refine v_iload aX8_laid_22 rfl ?_
    refine v_iload_n aX8_laid_24 rfl ?_
    refine v_iload aX8_laid_25 rfl ?_
    refine v_cSi (c_X8_isOver (by omega) (by omega)) aX8_laid_27 mX8_isOver sX8_isOver lX8_142 rfl rfl (Nat.le_of_ble_eq_true rfl) ⟨Nat.le_of_ble_eq_true rfl, Nat.le_of_ble_eq_true rfl⟩ (Nat.le_of_ble_eq_true rfl) ?_
    refine v_if_ne_b 44 rfl aX8_laid_30 (fun c30 => ?_) (fun c30 => ?_)
    · --
      refine v_aload_n aX8_laid_44 rfl ?_
      refine v_iload aX8_laid_45 rfl ?_
      refine v_iload_n aX8_laid_47 rfl ?_
      refine v_cVe (c_X8_stand hM hn hT kr.1 (Or.inl hgr)) aX8_laid_48 mX8_stand vX8_stand lX8_145 hM.p rfl rfl rfl rfl rfl (Nat.le_of_ble_eq_true rfl) ⟨Nat.le_of_ble_eq_true rfl, Nat.le_of_ble_eq_true rfl⟩ (Nat.le_of_ble_eq_true rfl) (fun z μ' hz => ?_)
      refine v_ireturn aX8_laid_51 rfl ⟨Nat.le_refl _, Nat.le_refl _⟩ ?_
      exact ⟨z, rfl, rfl, _, ⟨fun _ => rfl, fun q => absurd q (fun q => q.2.2 ⟨by omega, by omega, c30⟩)⟩, hz⟩
    · --
      refine v_iload aX8_laid_33 rfl ?_
      refine v_iload aX8_laid_35 rfl ?_
      refine v_iload_n aX8_laid_37 rfl ?_
      refine v_cSi (c_X8_isOver (by omega) (by omega)) aX8_laid_38 mX8_isOver sX8_isOver lX8_142 rfl rfl (Nat.le_of_ble_eq_true rfl) ⟨Nat.le_of_ble_eq_true rfl, Nat.le_of_ble_eq_true rfl⟩ (Nat.le_of_ble_eq_true rfl) ?_
      refine v_if_eq_b 52 rfl aX8_laid_41 (fun c41 => ?_) (fun c41 => ?_)
      · --
        have ho : OpR gn (RB (μ (m + 13) k)) (μ (m + 14) k) g := ⟨by omega, fun q => c41 q.2.2, fun q => c30 q.2.2⟩
        have ow0 := kr.1
        refine v_aload_n aX8_laid_52 rfl ?_
        refine v_iload_n aX8_laid_53 rfl ?_
        refine v_if_ne 69 rfl aX8_laid_54 (by omega) (fun c54 => ?_) (fun c54 => ?_)
        · --
          refine v_aload_n aX8_laid_69 rfl ?_
          refine v_iload aX8_laid_70 rfl ?_
          refine v_iload aX8_laid_72 rfl ?_
          refine v_iload_n aX8_laid_74 rfl ?_
          refine v_cVe (c_X8_with hM hg hn kr.1 (by omega) hgr) aX8_laid_75 mX8_with vX8_with lX8_148 hM.p rfl rfl rfl rfl rfl (Nat.le_of_ble_eq_true rfl) ⟨Nat.le_of_ble_eq_true rfl, Nat.le_of_ble_eq_true rfl⟩ (Nat.le_of_ble_eq_true rfl) (fun w1 μ1 ⟨e1, j1⟩ => ?_)
          subst e1
          have ow1 := j1.ow ow0 (by omega) hgr (fun e => hne e.symm) ho.2.2
          refine v_iload_n aX8_laid_78 rfl ?_
          refine v_cVe (c_X8_stand hM hn hT ow1 (Or.inl hgr)) aX8_laid_79 mX8_stand vX8_stand lX8_145 hM.p rfl rfl rfl rfl rfl (Nat.le_of_ble_eq_true rfl) ⟨Nat.le_of_ble_eq_true rfl, Nat.le_of_ble_eq_true rfl⟩ (Nat.le_of_ble_eq_true rfl) (fun z μ' hz => ?_)
          refine v_ireturn aX8_laid_82 rfl ⟨Nat.le_refl _, Nat.le_refl _⟩ ?_
          refine ⟨z, rfl, rfl, w1, ⟨fun q => absurd ho q, fun _ => ?_⟩, hz⟩
          rw [if_neg c54, if_neg c54]; exact j1
        · --
          refine v_aload_n aX8_laid_57 rfl ?_
          refine v_iload aX8_laid_58 rfl ?_
          refine v_iload_n aX8_laid_60 rfl ?_
          refine v_iload aX8_laid_61 rfl ?_
          refine v_cVe (c_X8_with hM hg hn kr.1 hgr (by omega)) aX8_laid_63 mX8_with vX8_with lX8_148 hM.p rfl rfl rfl rfl rfl (Nat.le_of_ble_eq_true rfl) ⟨Nat.le_of_ble_eq_true rfl, Nat.le_of_ble_eq_true rfl⟩ (Nat.le_of_ble_eq_true rfl) (fun w1 μ1 ⟨e1, j1⟩ => ?_)
          subst e1
          have ow1 := j1.ow ow0 hgr (by omega) hne ho.2.1
          refine v_goto 78 rfl aX8_laid_66 ?_
          skip
          refine v_iload_n aX8_laid_78 rfl ?_
          refine v_cVe (c_X8_stand hM hn hT ow1 (Or.inl hgr)) aX8_laid_79 mX8_stand vX8_stand lX8_145 hM.p rfl rfl rfl rfl rfl (Nat.le_of_ble_eq_true rfl) ⟨Nat.le_of_ble_eq_true rfl, Nat.le_of_ble_eq_true rfl⟩ (Nat.le_of_ble_eq_true rfl) (fun z μ' hz => ?_)
          refine v_ireturn aX8_laid_82 rfl ⟨Nat.le_refl _, Nat.le_refl _⟩ ?_
          refine ⟨z, rfl, rfl, w1, ⟨fun q => absurd ho q, fun _ => ?_⟩, hz⟩
          rw [if_pos c54, if_pos c54]; exact j1
      · --
        refine v_aload_n aX8_laid_44 rfl ?_
        refine v_iload aX8_laid_45 rfl ?_
        refine v_iload_n aX8_laid_47 rfl ?_
        refine v_cVe (c_X8_stand hM hn hT kr.1 (Or.inl hgr)) aX8_laid_48 mX8_stand vX8_stand lX8_145 hM.p rfl rfl rfl rfl rfl (Nat.le_of_ble_eq_true rfl) ⟨Nat.le_of_ble_eq_true rfl, Nat.le_of_ble_eq_true rfl⟩ (Nat.le_of_ble_eq_true rfl) (fun z μ' hz => ?_)
        refine v_ireturn aX8_laid_51 rfl ⟨Nat.le_refl _, Nat.le_refl _⟩ ?_
        exact ⟨z, rfl, rfl, _, ⟨fun _ => rfl, fun q => absurd q (fun q => q.2.1 ⟨by omega, by omega, c41⟩)⟩, hz⟩
set_option maxHeartbeats 4000000 in
set_option maxRecDepth 100000 in
theorem c_X8_does {k g r : Int} (hM : ModS S m) (hg : μ m 13 = gn) (hn : 1 ≤ gn ∧ gn ≤ 5) (hT : TbA μ m gn) (hk : 0 ≤ k ∧ k < μ m 17) (hgr : 0 ≤ g ∧ g < gn) (hD : Dn μ m gn k gn) (hv : ∀ j : Int, 0 ≤ j → j < μ m 17 → -6 ≤ μ (m + 15) j ∧ μ (m + 15) j ≤ 1000) (hr : 0 ≤ r ∧ r ≤ 1000) : Ct l G cX8_does (yX8_does, 6, (some FieldType.boolean), 3, 0, 0) [.ref m, vi k, vi g, vi r] S μ (Ri S (b2i (DoP μ m gn k g r)) μ) := by
  have kr := hT.2.2.2.2.2 k hk.1 hk.2
  have nr := hT.1
  refine Ct.of (by decide) rfl (by simp [vi, Value.category]) (Nat.le_of_ble_eq_true rfl) ?_
  refine v_iload_n aX8_does_0 rfl ?_
  refine v_aload_n aX8_does_1 rfl ?_
  refine v_getr aX8_does_2 fX8_54 hM.p rfl rfl ?_
  refine v_iload_n aX8_does_5 rfl ?_
  refine v_iald aX8_does_6 hM.p_lying (by omega) (by decide) ?_
  refine v_icmp_ne 12 rfl aX8_does_7 (by omega) (by omega) (fun c7 => ?_) (fun c7 => ?_)
  · --
    refine v_aload_n aX8_does_12 rfl ?_
    refine v_getr aX8_does_13 fX8_57 hM.p rfl rfl ?_
    refine v_aload_n aX8_does_16 rfl ?_
    refine v_iload_n aX8_does_17 rfl ?_
    refine v_iload_n aX8_does_18 rfl ?_
    refine v_iconst aX8_does_19 ?_
    refine v_cVe (c_X8_laid hM hg hn hT hk hgr c7 (Or.inl rfl)) aX8_does_20 mX8_laid vX8_laid lX8_155 hM.p rfl rfl rfl rfl rfl (Nat.le_of_ble_eq_true rfl) ⟨Nat.le_of_ble_eq_true rfl, Nat.le_of_ble_eq_true rfl⟩ (Nat.le_of_ble_eq_true rfl) (fun z1 μ1 ⟨w1, l1, s1⟩ => ?_)
    have e1 := s1.2.2.2.2.1 (hD g hgr.1 hgr.2 c7 0 w1 l1)
    have q1 := s1.2.1
    clear s1
    subst e1
    refine v_iald aX8_does_23 hM.p_value (by omega) (by decide) ?_
    have v1 := hv z1 q1.1.1 q1.1.2
    refine v_istore aX8_does_24 (by decide) rfl ?_
    refine v_aload_n aX8_does_26 rfl ?_
    refine v_getr aX8_does_27 fX8_57 hM.p rfl rfl ?_
    refine v_aload_n aX8_does_30 rfl ?_
    refine v_iload_n aX8_does_31 rfl ?_
    refine v_iload_n aX8_does_32 rfl ?_
    refine v_iconst aX8_does_33 ?_
    refine v_cVe (c_X8_laid hM hg hn hT hk hgr c7 (Or.inr rfl)) aX8_does_34 mX8_laid vX8_laid lX8_155 hM.p rfl rfl rfl rfl rfl (Nat.le_of_ble_eq_true rfl) ⟨Nat.le_of_ble_eq_true rfl, Nat.le_of_ble_eq_true rfl⟩ (Nat.le_of_ble_eq_true rfl) (fun z2 μ2 ⟨w2, l2, s2⟩ => ?_)
    have e2 := s2.2.2.2.2.1 (hD g hgr.1 hgr.2 c7 1 w2 l2)
    have q2 := s2.2.1
    clear s2
    subst e2
    refine v_iald aX8_does_37 hM.p_value (by omega) (by decide) ?_
    have v2 := hv z2 q2.1.1 q2.1.2
    have hdo := DoP_of (r := r) hT c7 l1 l2 q1 q2
    refine v_istore aX8_does_38 (by decide) rfl ?_
    refine v_iload aX8_does_40 rfl ?_
    refine v_if_lt 66 rfl aX8_does_42 (by omega) (fun c42 => ?_) (fun c42 => ?_)
    · --
      refine v_iconst aX8_does_66 ?_
      refine v_zreturn aX8_does_67 rfl ⟨Nat.le_refl _, Nat.le_refl _⟩ (by first | exact Or.inl rfl | exact Or.inr rfl | exact b2i_01 | omega) ?_
      exact ⟨congrArg (fun z => some (vi z)) (b2i_f (fun q => absurd (hdo.mp q) (by omega))).symm, rfl, rfl⟩
    · --
      refine v_iload aX8_does_45 rfl ?_
      refine v_iload_n aX8_does_47 rfl ?_
      refine v_icmp_gt 66 rfl aX8_does_48 (by omega) (by omega) (fun c48 => ?_) (fun c48 => ?_)
      · --
        refine v_iconst aX8_does_66 ?_
        refine v_zreturn aX8_does_67 rfl ⟨Nat.le_refl _, Nat.le_refl _⟩ (by first | exact Or.inl rfl | exact Or.inr rfl | exact b2i_01 | omega) ?_
        exact ⟨congrArg (fun z => some (vi z)) (b2i_f (fun q => absurd (hdo.mp q) (by omega))).symm, rfl, rfl⟩
      · --
        refine v_iload aX8_does_51 rfl ?_
        refine v_if_lt 66 rfl aX8_does_53 (by omega) (fun c53 => ?_) (fun c53 => ?_)
        · --
          refine v_iconst aX8_does_66 ?_
          refine v_zreturn aX8_does_67 rfl ⟨Nat.le_refl _, Nat.le_refl _⟩ (by first | exact Or.inl rfl | exact Or.inr rfl | exact b2i_01 | omega) ?_
          exact ⟨congrArg (fun z => some (vi z)) (b2i_f (fun q => absurd (hdo.mp q) (by omega))).symm, rfl, rfl⟩
        · --
          refine v_iload aX8_does_56 rfl ?_
          refine v_iload_n aX8_does_58 rfl ?_
          refine v_icmp_gt 66 rfl aX8_does_59 (by omega) (by omega) (fun c59 => ?_) (fun c59 => ?_)
          · --
            refine v_iconst aX8_does_66 ?_
            refine v_zreturn aX8_does_67 rfl ⟨Nat.le_refl _, Nat.le_refl _⟩ (by first | exact Or.inl rfl | exact Or.inr rfl | exact b2i_01 | omega) ?_
            exact ⟨congrArg (fun z => some (vi z)) (b2i_f (fun q => absurd (hdo.mp q) (by omega))).symm, rfl, rfl⟩
          · --
            refine v_iconst aX8_does_62 ?_
            refine v_goto 67 rfl aX8_does_63 ?_
            refine v_zreturn aX8_does_67 rfl ⟨Nat.le_refl _, Nat.le_refl _⟩ (by first | exact Or.inl rfl | exact Or.inr rfl | exact b2i_01 | omega) ?_
            exact ⟨congrArg (fun z => some (vi z)) (b2i_t (hdo.mpr (by omega))).symm, rfl, rfl⟩
  · --
    refine v_iconst aX8_does_10 ?_
    refine v_zreturn aX8_does_11 rfl ⟨Nat.le_refl _, Nat.le_refl _⟩ (by first | exact Or.inl rfl | exact Or.inr rfl | exact b2i_01 | omega) ?_
    exact ⟨congrArg (fun z => some (vi z)) (b2i_f (fun q => q.1 c7)).symm, rfl, rfl⟩
set_option maxHeartbeats 4000000 in
set_option maxRecDepth 100000 in
theorem li_X8_layStands {μ0 : Mu} {a y f0 k : Int} (hM : ModS S m) (hg : μ0 m 13 = gn) (hn : 1 ≤ gn ∧ gn ≤ 5) (hh : ∀ (μ : Mu) (L : List Value), LyS μ0 μ m gn a y (k + 1) → V l G cX8_layStands (yX8_layStands, 9, none, 3, 0, 0) (Rw S (fun μ' => LyS μ0 μ' m gn a y (μ' m 17))) (0, 0) S μ 37 ([.ref m, vi a, vi y, vi f0, vi (k + 1)] ++ L) []) : ∀ (N : Nat) (g : Int) (μ : Mu) (L : List Value), (0 ≤ g ∧ g ≤ gn) → gn - g < N → LyS μ0 μ m gn a y k → k < μ m 17 → ¬ WhR gn (RB (μ (m + 13) k)) → μ (m + 15) k = -6 → Dn μ m gn k g → V l G cX8_layStands (yX8_layStands, 9, none, 3, 0, 0) (Rw S (fun μ' => LyS μ0 μ' m gn a y (μ' m 17))) (0, 0) S μ 80 ([.ref m, vi a, vi y, vi f0, vi k, vi 0, vi g] ++ L) [] := by
  intro N
  induction N with
  | zero => intros; omega
  | succ N ih =>
    intro g μ L h0 h1 hL hk hW hv hD
    have hT := hL.1
    have kb := hL.2.1
    have nr := hT.1
    have kr := hT.2.2.2.2.2 k kb.1.1 hk
    have hg' : μ m 13 = gn := (hL.2.2.2.2.2 13 (by decide)).trans hg
    refine v_take 7 rfl ?_
    show V _ _ _ _ _ _ _ _ _ [.ref m, vi a, vi y, vi f0, vi k, vi 0, vi g] _
    refine v_iload aX8_layStands_80 rfl ?_
    refine v_aload_n aX8_layStands_82 rfl ?_
    refine v_gi 13 rfl aX8_layStands_83 fX8_118 hM.p rfl rfl ?_
    refine v_icmp_ge 151 rfl aX8_layStands_86 (by omega) (by omega) (fun c86 => ?_) (fun c86 => ?_)
    · --
      refine v_iinc aX8_layStands_151 rfl (by decide) rfl ?_
      refine v_goto 37 rfl aX8_layStands_154 ?_
      refine hh _ [vi 0, vi g] (hL.next hk ⟨fun q => absurd q hW, fun _ => ⟨hv, ?_⟩⟩)
      obtain rfl : g = gn := by omega
      exact hD
    · --
      refine v_iload aX8_layStands_89 rfl ?_
      refine v_if_ne 151 rfl aX8_layStands_91 (by omega) (fun c91 => ?_) (fun c91 => ?_)
      · exact absurd rfl c91
      · --
        refine v_iload aX8_layStands_94 rfl ?_
        refine v_aload_n aX8_layStands_96 rfl ?_
        refine v_getr aX8_layStands_97 fX8_54 hM.p rfl rfl ?_
        refine v_iload aX8_layStands_100 rfl ?_
        refine v_iald aX8_layStands_102 hM.p_lying (by omega) (by decide) ?_
        refine v_icmp_eq 145 rfl aX8_layStands_103 (by omega) (by omega) (fun c103 => ?_) (fun c103 => ?_)
        · --
          refine v_iinc aX8_layStands_145 rfl (by decide) rfl ?_
          refine v_goto 80 rfl aX8_layStands_148 ?_
          exact ih (g + 1) μ [] (by omega) (by omega) hL hk hW hv (hD.skip c103)
        · --
          refine v_aload_n aX8_layStands_106 rfl ?_
          refine v_iload aX8_layStands_107 rfl ?_
          refine v_iload aX8_layStands_109 rfl ?_
          refine v_iconst aX8_layStands_111 ?_
          refine v_cVe (c_X8_laid hM hg' hn hT ⟨kb.1.1, hk⟩ (by omega) c103 (Or.inl rfl)) aX8_layStands_112 mX8_laid vX8_laid lX8_155 hM.p rfl rfl rfl rfl rfl (Nat.le_of_ble_eq_true rfl) ⟨Nat.le_of_ble_eq_true rfl, Nat.le_of_ble_eq_true rfl⟩ (Nat.le_of_ble_eq_true rfl) (fun z1 μ1 ⟨w1, l1, s1⟩ => ?_)
          have e1 := s1.2.2.2.1 k kb.1.1 hk
          have n1 := s1.2.2.1
          have hg2 : μ1 m 13 = gn := (s1.2.2.2.2.2.2 13 (by decide)).trans hg'
          have z1r := s1.2.1.1
          have nr1 := s1.1.1
          refine v_istore aX8_layStands_115 (by decide) rfl ?_
          refine v_aload_n aX8_layStands_117 rfl ?_
          refine v_iload aX8_layStands_118 rfl ?_
          refine v_iload aX8_layStands_120 rfl ?_
          refine v_iconst aX8_layStands_122 ?_
          refine v_cVe (c_X8_laid hM hg2 hn s1.1 ⟨kb.1.1, by omega⟩ (by omega) (by rw [e1.2.1]; exact c103) (Or.inr rfl)) aX8_layStands_123 mX8_laid vX8_laid lX8_155 hM.p rfl rfl rfl rfl rfl (Nat.le_of_ble_eq_true rfl) ⟨Nat.le_of_ble_eq_true rfl, Nat.le_of_ble_eq_true rfl⟩ (Nat.le_of_ble_eq_true rfl) (fun z2 μ2 ⟨w2, l2, s2⟩ => ?_)
          have e2 := s2.2.2.2.1 k kb.1.1 (by omega)
          have n2 := s2.2.2.1
          have z2r := s2.2.1.1
          have nr2 := s2.1.1
          refine v_istore aX8_layStands_126 (by decide) rfl ?_
          refine v_iload aX8_layStands_128 rfl ?_
          refine v_if_lt 138 rfl aX8_layStands_130 (by omega) (fun c130 => ?_) (fun c130 => ?_)
          · omega
          · --
            refine v_iload aX8_layStands_133 rfl ?_
            refine v_if_ge 142 rfl aX8_layStands_135 (by omega) (fun c135 => ?_) (fun c135 => ?_)
            · --
              refine v_iconst aX8_layStands_142 ?_
              refine v_istore aX8_layStands_143 (by decide) rfl ?_
              refine v_iinc aX8_layStands_145 rfl (by decide) rfl ?_
              refine v_goto 80 rfl aX8_layStands_148 ?_
              refine ih (g + 1) μ2 [vi z1, vi z2] (by omega) (by omega) ((hL.stp s1).stp s2) (by omega) ?_ ?_ ?_
              · rw [e2.1, e1.1]; exact hW
              · rw [e2.2.2, e1.2.2]; exact hv
              · refine (s2.dn ⟨kb.1.1, by omega⟩ (s1.dn ⟨kb.1.1, hk⟩ hD)).step (w1 := w1) (w2 := w2) ?_ ?_ (s2.has s1.key) s2.key
                · rw [e2.1, e2.2.1, e1.1, e1.2.1]; exact l1
                · rw [e2.1, e2.2.1]; exact l2
            · omega
set_option maxHeartbeats 4000000 in
set_option maxRecDepth 100000 in
theorem lo_X8_layStands {μ0 : Mu} {a y f0 : Int} (hM : ModS S m) (hg : μ0 m 13 = gn) (hn : 1 ≤ gn ∧ gn ≤ 5) : ∀ (N : Nat) (k : Int) (μ : Mu) (L : List Value), 25998 - k < N → LyS μ0 μ m gn a y k → V l G cX8_layStands (yX8_layStands, 9, none, 3, 0, 0) (Rw S (fun μ' => LyS μ0 μ' m gn a y (μ' m 17))) (0, 0) S μ 37 ([.ref m, vi a, vi y, vi f0, vi k] ++ L) [] := by
  intro N
  induction N with
  | zero =>
    intro k μ L h1 hL
    have := hL.1.1
    have := hL.2.1
    omega
  | succ N ih =>
    intro k μ L h1 hL
    have hT := hL.1
    have kb := hL.2.1
    have nr := hT.1
    have hg' : μ m 13 = gn := (hL.2.2.2.2.2 13 (by decide)).trans hg
    refine v_take 5 rfl ?_
    show V _ _ _ _ _ _ _ _ _ [.ref m, vi a, vi y, vi f0, vi k] _
    refine v_iload aX8_layStands_37 rfl ?_
    refine v_aload_n aX8_layStands_39 rfl ?_
    refine v_gi 17 rfl aX8_layStands_40 fX8_139 hM.p rfl rfl ?_
    refine v_icmp_ge 157 rfl aX8_layStands_43 (by omega) (by omega) (fun c43 => ?_) (fun c43 => ?_)
    · --
      refine v_return aX8_layStands_157 rfl ⟨Nat.le_refl _, Nat.le_refl _⟩ ?_
      obtain rfl : k = μ m 17 := by omega
      exact ⟨rfl, rfl, hL⟩
    · --
      refine v_aload_n aX8_layStands_46 rfl ?_
      refine v_aload_n aX8_layStands_47 rfl ?_
      refine v_getr aX8_layStands_48 fX8_51 hM.p rfl rfl ?_
      refine v_iload aX8_layStands_51 rfl ?_
      refine v_iald aX8_layStands_53 hM.p_known (by omega) (by decide) ?_
      refine v_cVi (c_X8_isWhole hM hg' hn) aX8_layStands_54 mX8_isWhole vX8_isWhole lX8_152 hM.p rfl rfl rfl rfl rfl (Nat.le_of_ble_eq_true rfl) ⟨Nat.le_of_ble_eq_true rfl, Nat.le_of_ble_eq_true rfl⟩ (Nat.le_of_ble_eq_true rfl) ?_
      refine v_istore aX8_layStands_57 (by decide) rfl ?_
      refine v_aload_n aX8_layStands_59 rfl ?_
      refine v_getr aX8_layStands_60 fX8_57 hM.p rfl rfl ?_
      refine v_iload aX8_layStands_63 rfl ?_
      refine v_iload aX8_layStands_65 rfl ?_
      refine v_if_eq_b 74 rfl aX8_layStands_67 (fun c67 => ?_) (fun c67 => ?_)
      · --
        refine v_bipush (by decide) aX8_layStands_74 ?_
        refine v_iast aX8_layStands_76 hM.p_value (by omega) (by decide) ?_
        refine v_iconst aX8_layStands_77 ?_
        refine v_istore aX8_layStands_78 (by decide) rfl ?_
        rw [b2i_f c67]
        refine li_X8_layStands hM hg hn (fun μ2 L2 h2 => ih (k + 1) μ2 L2 (by omega) h2) 6 0 _ [] (by omega) (by omega) hL.val ?_ ?_ upd2_same (fun g g0 g1 => by omega)
        · rw [upd2_row (by omega)]; omega
        · rw [upd2_row (by omega)]; exact c67
      · --
        refine v_iconst aX8_layStands_70 ?_
        refine v_goto 76 rfl aX8_layStands_71 ?_
        refine v_iast aX8_layStands_76 hM.p_value (by omega) (by decide) ?_
        refine v_iconst aX8_layStands_77 ?_
        refine v_istore aX8_layStands_78 (by decide) rfl ?_
        have e13 : upd2 μ (m + 15) k 0 (m + 13) = μ (m + 13) := upd2_row (by omega)
        have em : upd2 μ (m + 15) k 0 m = μ m := upd2_row (by omega)
        refine v_iload aX8_layStands_80 rfl ?_
        refine v_aload_n aX8_layStands_82 rfl ?_
        refine v_gi 13 rfl aX8_layStands_83 fX8_118 hM.p rfl rfl ?_
        rw [em, hg']
        refine v_icmp_ge 151 rfl aX8_layStands_86 (by omega) (by omega) (fun c86 => ?_) (fun c86 => ?_)
        · omega
        · --
          refine v_iload aX8_layStands_89 rfl ?_
          refine v_if_ne_b 151 rfl aX8_layStands_91 (fun c91 => ?_) (fun c91 => ?_)
          · --
            refine v_iinc aX8_layStands_151 rfl (by decide) rfl ?_
            refine v_goto 37 rfl aX8_layStands_154 ?_
            refine ih (k + 1) _ [vi _, vi _] (by omega) (hL.val.next (by rw [em]; omega) ⟨fun _ => upd2_same, fun q => absurd c67 ?_⟩)
            rw [e13] at q
            exact q
          · exact absurd c67 c91
set_option maxHeartbeats 4000000 in
set_option maxRecDepth 100000 in
theorem lf_X8_layStands {μ0 : Mu} {a y : Int} (hM : ModS S m) (hg : μ0 m 13 = gn) (hn : 1 ≤ gn ∧ gn ≤ 5) (ha : OW gn a) (hy : (0 ≤ y ∧ y < gn) ∨ y = 5) : ∀ (N : Nat) (s : Int) (μ : Mu), (0 ≤ s ∧ s ≤ 65536) → 65536 - s < N → (∀ u : Int, 0 ≤ u → u < s → μ (m + 16) u = -6) → μ m 17 = 0 → (∀ q : Nat, q ≠ m → q ≠ m + 13 → q ≠ m + 14 → q ≠ m + 15 → q ≠ m + 16 → μ q = μ0 q) → (∀ i : Int, i ≠ 17 → μ m i = μ0 m i) → V l G cX8_layStands (yX8_layStands, 9, none, 3, 0, 0) (Rw S (fun μ' => LyS μ0 μ' m gn a y (μ' m 17))) (0, 0) S μ 7 [.ref m, vi a, vi y, vi s] [] := by
  intro N
  induction N with
  | zero => intros; omega
  | succ N ih =>
    intro s μ h0 h1 hs h17 hq hi
    refine v_iload_n aX8_layStands_7 rfl ?_
    refine v_ldc kX8_60 aX8_layStands_8 ?_
    refine v_icmp_ge 27 rfl aX8_layStands_10 (by omega) (by omega) (fun c10 => ?_) (fun c10 => ?_)
    · --
      have hT : TbA μ m gn := by
        unfold TbA
        rw [h17]
        exact ⟨by omega, fun u u0 u1 => Or.inl (hs u u0 (by omega)), fun k k0 k1 => by omega, fun u v u0 u1 v0 v1 p => absurd p (by rw [hs u u0 (by omega)]; decide), fun k j k0 k1 => by omega, fun k k0 k1 => by omega⟩
      refine v_aload_n aX8_layStands_27 rfl ?_
      refine v_iload_n aX8_layStands_28 rfl ?_
      refine v_iload_n aX8_layStands_29 rfl ?_
      refine v_cVe (c_X8_stand hM hn hT ha hy) aX8_layStands_30 mX8_stand vX8_stand lX8_145 hM.p rfl rfl rfl rfl rfl (Nat.le_of_ble_eq_true rfl) ⟨Nat.le_of_ble_eq_true rfl, Nat.le_of_ble_eq_true rfl⟩ (Nat.le_of_ble_eq_true rfl) (fun z μ' hz => ?_)
      refine v_istore_n aX8_layStands_33 (by decide) rfl ?_
      refine v_iload_n aX8_layStands_34 rfl ?_
      refine v_istore aX8_layStands_35 (by decide) rfl ?_
      have zr := hz.2.1.1
      have nr := hz.2.2.1
      rw [h17] at nr
      obtain rfl : z = 0 := by omega
      exact lo_X8_layStands hM hg hn 25999 0 _ [] (by omega) ⟨hz.1, by omega, hz.2.1.2, fun k' k0 k1 => by omega, fun q q0 q1 q2 q3 q4 => (hz.2.2.2.2.2.1 q q0 q1 q2 q3 q4).trans (hq q q0 q1 q2 q3 q4), fun i hi2 => (hz.2.2.2.2.2.2 i hi2).trans (hi i hi2)⟩
    · --
      refine v_aload_n aX8_layStands_13 rfl ?_
      refine v_getr aX8_layStands_14 fX8_61 hM.p rfl rfl ?_
      refine v_iload_n aX8_layStands_17 rfl ?_
      refine v_bipush (by decide) aX8_layStands_18 ?_
      refine v_iast aX8_layStands_20 hM.p_table (by omega) (by decide) ?_
      refine v_iinc aX8_layStands_21 rfl (by decide) rfl ?_
      refine v_goto 7 rfl aX8_layStands_24 ?_
      refine ih (s + 1) _ (by omega) (by omega) (fun u u0 u1 => ?_) ?_ (fun q q0 q1 q2 q3 q4 => (upd2_row q4).trans (hq q q0 q1 q2 q3 q4)) (fun i hi2 => by rw [upd2_row (by omega)]; exact hi i hi2)
      · rw [upd2_ap]
        by_cases e : u = s
        · rw [if_pos ⟨rfl, e⟩]
        · rw [if_neg (fun q => e q.2)]; exact hs u u0 (by omega)
      · rw [upd2_row (by omega)]; exact h17
set_option maxHeartbeats 4000000 in
set_option maxRecDepth 100000 in
theorem c_X8_layStands {μ0 : Mu} {a y : Int} (hM : ModS S m) (hg : μ0 m 13 = gn) (hn : 1 ≤ gn ∧ gn ≤ 5) (ha : OW gn a) (hy : (0 ≤ y ∧ y < gn) ∨ y = 5) : Ct l G cX8_layStands (yX8_layStands, 9, none, 3, 0, 0) [.ref m, vi a, vi y] S μ0 (Rw S (fun μ' => LyS μ0 μ' m gn a y (μ' m 17))) := by
  refine Ct.of (by decide) rfl (by simp [vi, Value.category]) (Nat.le_of_ble_eq_true rfl) ?_
  refine v_aload_n aX8_layStands_0 rfl ?_
  refine v_iconst aX8_layStands_1 ?_
  refine v_pi 17 rfl aX8_layStands_2 fX8_139 nf8_17 ok8_17 hM.p rfl rfl ?_
  refine v_iconst aX8_layStands_5 ?_
  refine v_istore_n aX8_layStands_6 (by decide) rfl ?_
  exact lf_X8_layStands hM hg hn ha hy 65537 0 _ (by omega) (by omega) (fun u u0 u1 => by omega) upd2_same (fun q q0 q1 q2 q3 q4 => upd2_row q0) (fun i hi => by rw [upd2_ap, if_neg (fun q => hi q.2)])
end MST2
