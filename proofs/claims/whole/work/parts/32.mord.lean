/-! in how many orders: the model -/
def clr (f s : Int) : Int := iAnd f (iXor (iShl 1 s) (-1))
theorem tb_clr {f s j : Int} (hs : 0 ≤ s ∧ s < 32) (hj : 0 ≤ j ∧ j < 32) : tb (clr f s) j ↔ tb f j ∧ j ≠ s := by
  unfold clr
  rw [tb_and, tb_not hj, tb_shl1 hs hj]
theorem clr_or0 : ∀ f : Nat, f < 64 → ∀ s : Nat, s < 6 → bt (Int32.ofInt (f : Int)) s = false → (iAnd (iOr (f : Int) (iShl 1 (s : Int))) (iXor (iShl 1 (s : Int)) (-1)) = (f : Int) ∧ (f : Int) < iOr (f : Int) (iShl 1 (s : Int))) := by decide +kernel
theorem or_clr0 : ∀ f : Nat, f < 64 → ∀ s : Nat, s < 6 → bt (Int32.ofInt (f : Int)) s = true → iOr (iAnd (f : Int) (iXor (iShl 1 (s : Int)) (-1))) (iShl 1 (s : Int)) = (f : Int) := by decide +kernel
theorem clr_or {f s : Int} (hf : 0 ≤ f ∧ f < 64) (hs : 0 ≤ s ∧ s < 6) (h : ¬ tb f s) : clr (iOr f (iShl 1 s)) s = f ∧ f < iOr f (iShl 1 s) := by
  have := clr_or0 f.toNat (by omega) s.toNat (by omega)
  rw [show ((f.toNat : Nat) : Int) = f by omega, show ((s.toNat : Nat) : Int) = s by omega] at this
  exact this (by unfold tb at h; simpa using h)
theorem or_clr {f s : Int} (hf : 0 ≤ f ∧ f < 64) (hs : 0 ≤ s ∧ s < 6) (h : tb f s) : iOr (clr f s) (iShl 1 s) = f := by
  have := or_clr0 f.toNat (by omega) s.toNat (by omega)
  rw [show ((f.toNat : Nat) : Int) = f by omega, show ((s.toNat : Nat) : Int) = s by omega] at this
  exact this h
theorem pow_shl0 : ∀ g : Nat, g < 7 → iShl 1 (g : Int) = ((2 ^ g : Nat) : Int) ∧ ∀ j : Nat, j < 6 → bt (Int32.ofInt (iShl 1 (g : Int) - 1)) j = decide (j < g) := by decide +kernel
theorem pow_shl {g : Int} (hg : 0 ≤ g ∧ g ≤ 6) : iShl 1 g = ((2 ^ g.toNat : Nat) : Int) ∧ ∀ j : Int, 0 ≤ j → j < 6 → (tb (iShl 1 g - 1) j ↔ j < g) := by
  have := pow_shl0 g.toNat (by omega)
  rw [show ((g.toNat : Nat) : Int) = g by omega] at this
  refine ⟨this.1, fun j j0 j1 => ?_⟩
  unfold tb
  rw [this.2 j.toNat (by omega)]
  simp
  omega
def MayP (R : Rl) (gr : Int → Int) (c Y h : Int) : Prop := ¬ tb Y h ∧ ∀ k : Int, 0 ≤ k → k < c → (R (gr k) (gr h) ∧ ¬ R (gr h) (gr k)) → tb Y k
def MC (R : Rl) (gr : Int → Int) (c X h s g : Int) : Prop := tb X h ∧ MayP R gr c (clr X h) h ∧ (clr X h < s ∨ (clr X h = s ∧ h < g))
noncomputable def MT (R : Rl) (gr : Int → Int) (c : Int) (w : Int → Int) (X s g h : Int) : Int := if b2i (MC R gr c X h s g) = 1 then w (clr X h) else 0
def MI (R : Rl) (gr : Int → Int) (c : Int) (w : Int → Int) (s g : Int) : Prop := ∀ X : Int, 0 ≤ X → X < 64 → w X = if X = 0 then 1 else sumN (MT R gr c w X s g) c.toNat
theorem sumN_upd {f f' : Int → Int} {g v : Int} (n : Nat) (hg : 0 ≤ g ∧ g < n) (h : ∀ i : Int, 0 ≤ i → i < n → i ≠ g → f' i = f i) (e : f' g = f g + v) : sumN f' n = sumN f n + v := by
  have e1 := sum_one (f := fun _ => v) n hg
  rw [← e1, ← sumN_add]
  refine sumN_c n (fun i i0 i1 => ?_)
  by_cases q : g = i
  · rw [← q, if_pos rfl]; exact e
  · rw [if_neg q, Int.add_zero]; exact h i i0 i1 (fun z => q z.symm)
theorem MI_no {R : Rl} {gr : Int → Int} {c : Int} {w : Int → Int} {s g : Int} (h : MI R gr c w s g) (hc : 0 ≤ c ∧ c ≤ 6) (hm : ¬ MayP R gr c s g) : MI R gr c w s (g + 1) := by
  intro X X0 X1
  rw [h X X0 X1]
  congr 1
  refine sumN_c _ (fun i i0 i1 => ?_)
  unfold MT
  rw [b2i_c (show MC R gr c X i s g ↔ MC R gr c X i s (g + 1) from ⟨fun q => ⟨q.1, q.2.1, q.2.2.imp id (fun z => ⟨z.1, by omega⟩)⟩, fun q => ⟨q.1, q.2.1, q.2.2.imp id (fun z => ⟨z.1, by
    have : i ≠ g := fun e => hm (by rw [← e, ← z.1]; exact q.2.1)
    omega⟩)⟩⟩)]
theorem MI_yes {R : Rl} {gr : Int → Int} {c : Int} {w : Int → Int} {s g : Int} (h : MI R gr c w s g) (hc : 0 ≤ c ∧ c ≤ 6) (hs : 0 ≤ s ∧ s < 64) (hg : 0 ≤ g ∧ g < c) (hm : MayP R gr c s g) : MI R gr c (iup w (iOr s (iShl 1 g)) (w (iOr s (iShl 1 g)) + w s)) s (g + 1) := by
  obtain ⟨k1, k2⟩ := clr_or hs (by omega) hm.1
  have k3 : tb (iOr s (iShl 1 g)) g := tb_or.mpr (Or.inr ((tb_shl1 (by omega) (by omega)).mpr rfl))
  intro X X0 X1
  have key : ∀ i : Int, MC R gr c X i s (g + 1) → iup w (iOr s (iShl 1 g)) (w (iOr s (iShl 1 g)) + w s) (clr X i) = w (clr X i) := fun i q => iup_ne (by rcases q.2.2 with z | z <;> omega)
  by_cases e : X = iOr s (iShl 1 g)
  · have e0 := h X X0 X1
    rw [if_neg (show ¬ X = 0 by omega)] at e0 ⊢
    have e1 : sumN (MT R gr c (iup w (iOr s (iShl 1 g)) (w (iOr s (iShl 1 g)) + w s)) X s (g + 1)) c.toNat = sumN (MT R gr c w X s g) c.toNat + w s := by
      refine sumN_upd (g := g) _ (by omega) (fun i i0 i1 i2 => ?_) ?_
      · unfold MT
        by_cases q : MC R gr c X i s g
        · have q' : MC R gr c X i s (g + 1) := ⟨q.1, q.2.1, q.2.2.imp id (fun z => ⟨z.1, by omega⟩)⟩
          rw [if_pos (b2i_t q), if_pos (b2i_t q')]
          exact key i q'
        · have q' : ¬ MC R gr c X i s (g + 1) := fun z => q ⟨z.1, z.2.1, z.2.2.imp id (fun y => ⟨y.1, by omega⟩)⟩
          rw [if_neg (fun z => q (b2i_1.mp z)), if_neg (fun z => q' (b2i_1.mp z))]
      · unfold MT
        have q : ¬ MC R gr c X g s g := fun z => by
          have := z.2.2
          rw [e, k1] at this
          omega
        have q' : MC R gr c X g s (g + 1) := by
          rw [e]
          exact ⟨k3, by rw [k1]; exact hm, Or.inr ⟨k1, by omega⟩⟩
        rw [if_neg (fun z => q (b2i_1.mp z)), if_pos (b2i_t q'), key g q', e, k1, Int.zero_add]
    rw [e1, ← e0, e, iup_same]
  · rw [iup_ne e, h X X0 X1]
    congr 1
    refine sumN_c _ (fun i i0 i1 => ?_)
    unfold MT
    by_cases q : MC R gr c X i s g
    · have q' : MC R gr c X i s (g + 1) := ⟨q.1, q.2.1, q.2.2.imp id (fun z => ⟨z.1, by omega⟩)⟩
      rw [if_pos (b2i_t q), if_pos (b2i_t q'), key i q']
    · have q' : ¬ MC R gr c X i s (g + 1) := fun z => q ⟨z.1, z.2.1, z.2.2.imp id (fun y => ⟨y.1, by
        have : i ≠ g := fun z2 => e (by rw [← y.1, z2]; exact (or_clr ⟨X0, X1⟩ (by omega) (by rw [← z2]; exact z.1)).symm)
        omega⟩)⟩
      rw [if_neg (fun z => q (b2i_1.mp z)), if_neg (fun z => q' (b2i_1.mp z))]
theorem MI_next {R : Rl} {gr : Int → Int} {c : Int} {w : Int → Int} {s : Int} (h : MI R gr c w s c) : MI R gr c w (s + 1) 0 := by
  intro X X0 X1
  rw [h X X0 X1]
  congr 1
  refine sumN_c _ (fun i i0 i1 => ?_)
  unfold MT
  rw [b2i_c (show MC R gr c X i s c ↔ MC R gr c X i (s + 1) 0 from ⟨fun q => ⟨q.1, q.2.1, Or.inl (by rcases q.2.2 with z | z <;> omega)⟩, fun q => ⟨q.1, q.2.1, by rcases q.2.2 with z | z <;> omega⟩⟩)]
/-! both ways of counting are one -/
theorem WO_ex {n : Int} {R : Rl} (hn : 0 ≤ n ∧ n ≤ 6) : ∀ k : Nat, k < 64 → ∃ g, WO n R g ((k : Int) + 1)
  | 0, _ => ⟨fun _ => 1, rfl, fun f f1 f2 => by omega⟩
  | k + 1, hk => by
    obtain ⟨g, hg⟩ := WO_ex (R := R) hn k (by omega)
    exact ⟨_, WO_step (N := (k : Int) + 1) (by omega) hn hg rfl⟩
theorem msk_ex (p : Int → Prop) : ∀ k : Nat, k ≤ 6 → ∃ z, Msk z (fun j => j < (k : Int) ∧ p j)
  | 0, _ => ⟨0, Msk.zero.c (fun j j0 j1 => ⟨False.elim, fun q => by omega⟩)⟩
  | k + 1, hk => by
    obtain ⟨z, hz⟩ := msk_ex p k (by omega)
    by_cases q : p (k : Int)
    · exact ⟨_, (hz.or (i := (k : Int)) (by omega)).c (fun j j0 j1 => ⟨fun y => y.elim (fun y => ⟨by omega, y.2⟩) (fun y => by rw [y]; exact ⟨by omega, q⟩), fun y => (Classical.em (j = (k : Int))).elim Or.inr (fun z => Or.inl ⟨by omega, y.2⟩)⟩)⟩
    · exact ⟨z, hz.c (fun j j0 j1 => ⟨fun y => ⟨by omega, y.2⟩, fun y => ⟨by have : j ≠ (k : Int) := fun z => q (by rw [← z]; exact y.2); omega, y.2⟩⟩)⟩
theorem msk_un {z w : Int} {p : Int → Prop} (hz : Msk z p) (hw : Msk w p) : z = w := by
  have hp : (2 : Nat) ^ 6 = 64 := rfl
  have h1 := hz.1
  have h2 := hw.1
  refine tb_ext (by omega) (by omega) (fun j j0 j1 => ?_)
  by_cases e : j < 6
  · exact (hz.2 j j0 e).trans (hw.2 j j0 e).symm
  · exact ⟨fun q => absurd q (tb_hi 6 hz.1.1 hz.1.2 (by omega)), fun q => absurd q (tb_hi 6 hw.1.1 hw.1.2 (by omega))⟩
theorem WO_un {n : Int} {R : Rl} {g g' : Int → Int} (hn : 0 ≤ n ∧ n ≤ 6) (h : WO n R g 64) (h' : WO n R g' 64) : ∀ (k : Nat) (f : Int), 0 ≤ f → f < k → f < 64 → g f = g' f
  | 0, _, _, _, _ => by omega
  | k + 1, f, h0, h1, h2 => by
    by_cases e : f = 0
    · rw [e, h.1, h'.1]
    · rw [h.2 f (by omega) h2, h'.2 f (by omega) h2]
      congr 1
      exact sumN_c _ (fun i i0 i1 => WT_c (by omega) (by omega) (fun j j0 j1 => WO_un hn h h' k j j0 (by omega) (by omega)))
theorem OrdA_un {n : Int} {R : Rl} {z z' : Int} (hn : 0 ≤ n ∧ n ≤ 6) (h : OrdA n R z) (h' : OrdA n R z') : z = z' := by
  obtain ⟨g, a, h1, h2, rfl⟩ := h
  obtain ⟨g', a', h1', h2', rfl⟩ := h'
  have hp : (2 : Nat) ^ 6 = 64 := rfl
  have := h2.1
  rw [← msk_un h2 h2']
  exact WO_un hn h1 h1' 64 a (by omega) (by omega) (by omega)
theorem OrdQ_un {t : BSt} {z z' : Int} (hn : 2 ≤ t.1 ∧ t.1 ≤ 6) (h : OrdQ t z) (h' : OrdQ t z') : z = z' := by
  by_cases q : Can t SA
  · exact OrdA_un (by omega) (h.1 q) (h'.1 q)
  · rw [h.2 q, h'.2 q]
theorem GrAt.sumF {μ : Mu} {m : Nat} {R : Rl} {n : Int} (h : GrAt μ m R n) (F : Int → Int) : ∀ k : Nat, (k : Int) ≤ n → sumN (fun g => F (μ (m + 10) g)) (cntP (Ld R) k).toNat = sumN (fun j => if b2i (Ld R j) = 1 then F j else 0) k
  | 0, _ => rfl
  | k + 1, hk => by
    have e1 : cntP (Ld R) (k + 1) = cntP (Ld R) k + b2i (Ld R (k : Int)) := rfl
    have n0 := cntP_nn (p := Ld R) k
    show _ = sumN (fun j => if b2i (Ld R j) = 1 then F j else 0) k + (if b2i (Ld R (k : Int)) = 1 then F (k : Int) else 0)
    rw [e1, ← h.sumF F k (by omega)]
    by_cases q : Ld R (k : Int)
    · rw [b2i_t q, sumN_s n0.1, if_pos rfl]
      have := h.2.1 (k : Int) (by omega) (by omega) q
      rw [Int.toNat_natCast] at this
      rw [this]
    · rw [b2i_f q, Int.add_zero, if_neg (by decide), Int.add_zero]
def PhiP (R : Rl) (n X : Int) : Int → Prop := fun j => j < n ∧ Ld R j ∧ tb X (cntP (Ld R) j.toNat)
theorem cnt_inj {p : Int → Prop} {i j : Int} (hi : 0 ≤ i) (hj : 0 ≤ j) (pi : p i) (pj : p j) (e : cntP p i.toNat = cntP p j.toNat) : i = j := by
  rcases Int.lt_trichotomy i j with q | q | q
  · have := cnt_lt (k := j.toNat) hi (by omega) pi; omega
  · exact q
  · have := cnt_lt (k := i.toNat) hj (by omega) pj; omega
theorem MI_WO {μ : Mu} {m : Nat} {R : Rl} {n : Int} {w W : Int → Int} (hg : GrAt μ m R n) (hn : 0 ≤ n ∧ n ≤ 6) (hM : MI R (μ (m + 10)) (μ m 13) w (iShl 1 (μ m 13)) 0) (hW : WO n R W 64) : ∀ (N : Nat) (X a : Int), 0 ≤ X → X < N → X < iShl 1 (μ m 13) → Msk a (PhiP R n X) → W a = w X
  | 0, _, _, _, _, _, _ => by omega
  | N + 1, X, a, X0, X1, X2, ha => by
    have hgn := hg.n hn.1
    have hp : (2 : Nat) ^ 6 = 64 := rfl
    obtain ⟨p1, -⟩ := pow_shl (g := μ m 13) (by omega)
    have p2 : (2 : Nat) ^ (μ m 13).toNat ≤ 2 ^ 6 := Nat.pow_le_pow_right (by decide) (by omega)
    have ha1 := ha.1
    have hX : X < 64 := by omega
    rw [hM X X0 hX]
    by_cases e : X = 0
    · rw [if_pos e, ← hW.1]
      congr 1
      refine msk_un (p := fun _ => False) (ha.c (fun j j0 j1 => ⟨fun q => ?_, False.elim⟩)) Msk.zero
      have := q.2.2
      rw [e] at this
      exact tb_zero this
    · rw [if_neg e]
      have hbit : ∀ j : Int, 0 ≤ j → tb X j → j < μ m 13 := fun j j0 q => by
        rcases Int.lt_or_le j (μ m 13) with z | z
        · exact z
        · exact absurd q (tb_hi (μ m 13).toNat X0 (by omega) (by omega))
      have ha0 : 1 ≤ a := by
        rcases Int.lt_or_le 0 a with z | z
        · exact z
        · exfalso
          have a0 : a = 0 := by omega
          apply e
          refine tb_ext (by omega) (by decide) (fun j j0 j1 => ⟨fun q => ?_, fun q => absurd q tb_zero⟩)
          have j2 := hbit j j0 q
          have g2 := hg.gr hn.1 j0 j2
          have := (ha.2 (μ (m + 10) j) (by omega) (by omega)).mpr ⟨by omega, g2.2.1, by rw [g2.2.2]; exact q⟩
          rw [a0] at this
          exact absurd this tb_zero
      rw [hW.2 a ha0 (by omega), if_pos (b2i_t (show Lds n R a from fun j j0 j1 q => ⟨((ha.2 j j0 j1).mp q).1, ((ha.2 j j0 j1).mp q).2.1⟩))]
      have hs := hg.sumF (fun j => if b2i (tb a j ∧ ∀ i : Int, 0 ≤ i → i < 6 → (i < n ∧ Ld R i ∧ R i j ∧ ¬ R j i) → tb a i) = 1 then W (iAnd a (iXor (iShl 1 j) (-1))) else 0) n.toNat (by omega)
      rw [← hg.1] at hs
      refine Eq.trans ?_ (hs.symm.trans ?_)
      · refine sumN_c _ (fun j j0 j1 => ?_)
        by_cases q : Ld R j
        · rw [if_pos (b2i_t q)]; rfl
        · rw [if_neg (fun z => q (b2i_1.mp z))]
          exact if_neg (fun z => q ((ha.2 j j0 (by omega)).mp (b2i_1.mp z).1).2.1)
      · refine sumN_c _ (fun k k0 k1 => ?_)
        have gk := hg.gr (g := k) hn.1 k0 (by omega)
        have tk : tb a (μ (m + 10) k) ↔ tb X k := (ha.2 _ (by omega) (by omega)).trans ⟨fun z => by have := z.2.2; rw [gk.2.2] at this; exact this, fun z => ⟨by omega, gk.2.1, by rw [gk.2.2]; exact z⟩⟩
        have tc : (tb a (μ (m + 10) k) ∧ ∀ i : Int, 0 ≤ i → i < 6 → (i < n ∧ Ld R i ∧ R i (μ (m + 10) k) ∧ ¬ R (μ (m + 10) k) i) → tb a i) ↔ MC R (μ (m + 10)) (μ m 13) X k (iShl 1 (μ m 13)) 0 := by
          constructor
          · rintro ⟨q1, q2⟩
            have q3 := tk.mp q1
            have q4 := clr_lt (f := X) (s := k) (by omega) (by omega) q3
            refine ⟨q3, ⟨fun z => ((tb_clr (by omega) (by omega)).mp z).2 rfl, fun i i0 i1 i2 => ?_⟩, Or.inl (by unfold clr; omega)⟩
            have gi := hg.gr (g := i) hn.1 i0 i1
            have := q2 (μ (m + 10) i) (by omega) (by omega) ⟨by omega, gi.2.1, i2⟩
            rw [ha.2 _ (by omega) (by omega)] at this
            have t2 := this.2.2
            rw [gi.2.2] at t2
            refine (tb_clr (by omega) (by omega)).mpr ⟨t2, fun z => ?_⟩
            rw [z] at i2
            exact i2.2 i2.1
          · rintro ⟨q1, ⟨-, q2⟩, -⟩
            refine ⟨tk.mpr q1, fun i i0 i1 i2 => ?_⟩
            have i3 := cntP_nn (p := Ld R) i.toNat
            have i4 := cnt_lt (p := Ld R) (k := n.toNat) i0 (by omega) i2.2.1
            have := q2 (cntP (Ld R) i.toNat) (by omega) (by rw [hg.1]; omega) (by rw [hg.2.1 i i0 i2.1 i2.2.1]; exact i2.2.2)
            rw [tb_clr (by omega) (by rw [hg.1] at hgn; omega)] at this
            exact (ha.2 i i0 i1).mpr ⟨i2.1, i2.2.1, this.1⟩
        unfold MT
        by_cases q : MC R (μ (m + 10)) (μ m 13) X k (iShl 1 (μ m 13)) 0
        · rw [if_pos (b2i_t q), if_pos (b2i_t (tc.mpr q))]
          have q4 := clr_lt (f := X) (s := k) (by omega) (by omega) q.1
          refine MI_WO hg hn hM hW N (clr X k) _ q4.1 (by unfold clr; omega) (by unfold clr; omega) ⟨and_rng 6 (by decide) ha1, fun j j0 j1 => ?_⟩
          show tb (clr a (μ (m + 10) k)) j ↔ _
          rw [tb_clr (by omega) (by omega), ha.2 j j0 j1]
          unfold PhiP
          have i3 := cntP_nn (p := Ld R) j.toNat
          rw [tb_clr (by omega) (by omega)]
          constructor
          · rintro ⟨⟨z1, z2, z3⟩, z4⟩
            exact ⟨z1, z2, z3, fun y => z4 (cnt_inj j0 gk.1.1 z2 gk.2.1 (y.trans gk.2.2.symm))⟩
          · rintro ⟨z1, z2, z3, z4⟩
            exact ⟨⟨z1, z2, z3⟩, fun y => z4 (by rw [y]; exact gk.2.2)⟩
        · rw [if_neg (fun z => q (b2i_1.mp z)), if_neg (fun z => q (tc.mp (b2i_1.mp z)))]
theorem MI_Ord {μ : Mu} {m : Nat} {R : Rl} {n : Int} {w : Int → Int} (hg : GrAt μ m R n) (hn : 0 ≤ n ∧ n ≤ 6) (hM : MI R (μ (m + 10)) (μ m 13) w (iShl 1 (μ m 13)) 0) : OrdA n R (w (iShl 1 (μ m 13) - 1)) := by
  have hgn := hg.n hn.1
  obtain ⟨W, hW⟩ := WO_ex (R := R) hn 63 (by decide)
  obtain ⟨a, ha⟩ := msk_ex (fun j => j < n ∧ Ld R j) 6 (by decide)
  obtain ⟨p1, p2⟩ := pow_shl (g := μ m 13) (by omega)
  have p3 : 0 < 2 ^ (μ m 13).toNat := Nat.pow_pos (by decide)
  refine ⟨W, a, hW, ha.c (fun j j0 j1 => ⟨fun q => q.2, fun q => ⟨by omega, q⟩⟩), (MI_WO hg hn hM hW (2 ^ (μ m 13).toNat) _ a (by omega) (by omega) (by omega) (ha.c (fun j j0 j1 => ?_))).symm⟩
  constructor
  · rintro ⟨-, q1, q2⟩
    have i3 := cntP_nn (p := Ld R) j.toNat
    have i4 := cnt_lt (p := Ld R) (k := n.toNat) j0 (by omega) q2
    exact ⟨q1, q2, (p2 _ (by omega) (by omega)).mpr (by rw [hg.1]; omega)⟩
  · rintro ⟨q1, q2, -⟩
    exact ⟨by omega, q1, q2⟩
section MOR
variable {l : Launch} {G : Glb} {S : Sh} {μ : Mu} {m : Nat} {t : BSt} {g : Int → Int} {n B : Int} {R : Rl}
set_option maxHeartbeats 4000000 in
set_option maxRecDepth 100000 in
theorem l1_X8_orders {μ0 : Mu} {P : Pst} (hM : ModS S m) (hh : ∀ w : Int → Int, (∀ X : Int, 0 ≤ X → X < 64 → w X = if X = 0 then 1 else 0) → ∀ L : List Value, V l G cX8_orders (yX8_orders, 5, (some FieldType.int), 3, 0, 0) P (0, 0) S (row μ0 (m + 12) w) 43 ([.ref m] ++ L) []) : ∀ (N : Nat) (i : Int) (w : Int → Int), (0 ≤ i ∧ i ≤ 64) → 64 - i < N → (∀ X : Int, 0 ≤ X → X < i → w X = if X = 0 then 1 else 0) → V l G cX8_orders (yX8_orders, 5, (some FieldType.int), 3, 0, 0) P (0, 0) S (row μ0 (m + 12) w) 16 [.ref m, vi i] [] := by
  intro N
  induction N with
  | zero => intros; omega
  | succ N ih =>
    intro i w h0 h1 hw
    refine v_iload_n aX8_orders_16 rfl ?_
    refine v_bipush (by decide) aX8_orders_17 ?_
    refine v_icmp_ge 43 rfl aX8_orders_19 (by omega) (by omega) (fun c19 => ?_) (fun c19 => ?_)
    · --
      exact hh w (fun X X0 X1 => hw X X0 (by omega)) [vi i]
    · --
      refine v_aload_n aX8_orders_22 rfl ?_
      refine v_getr aX8_orders_23 fX8_48 hM.p rfl rfl ?_
      refine v_iload_n aX8_orders_26 rfl ?_
      refine v_iload_n aX8_orders_27 rfl ?_
      refine v_if_ne 35 rfl aX8_orders_28 (by omega) (fun c28 => ?_) (fun c28 => ?_)
      · --
        refine v_iconst aX8_orders_35 ?_
        refine v_iast aX8_orders_36 hM.p_ways (by omega) (by decide) ?_
        refine v_iinc aX8_orders_37 rfl (by decide) rfl ?_
        refine v_goto 16 rfl aX8_orders_40 ?_
        refine v_mu (upd2_iup.trans (by rw [row_same, row_row])) ?_
        refine ih (i + 1) _ (by omega) (by omega) (fun X X0 X1 => ?_)
        by_cases e : X = i
        · rw [e, iup_same]; first | rw [if_pos c28] | rw [if_neg c28]
        · rw [iup_ne e]; exact hw X X0 (by omega)
      · --
        refine v_iconst aX8_orders_31 ?_
        refine v_goto 36 rfl aX8_orders_32 ?_
        refine v_iast aX8_orders_36 hM.p_ways (by omega) (by decide) ?_
        refine v_iinc aX8_orders_37 rfl (by decide) rfl ?_
        refine v_goto 16 rfl aX8_orders_40 ?_
        refine v_mu (upd2_iup.trans (by rw [row_same, row_row])) ?_
        refine ih (i + 1) _ (by omega) (by omega) (fun X X0 X1 => ?_)
        by_cases e : X = i
        · rw [e, iup_same]; first | rw [if_pos c28] | rw [if_neg c28]
        · rw [iup_ne e]; exact hw X X0 (by omega)
set_option maxHeartbeats 4000000 in
set_option maxRecDepth 100000 in
theorem l2_X8_orders {s g : Int} {P : Pst} (hM : ModS S m) (hf : FolR μ m R) (hg : GrAt μ m R n) (hn : 0 ≤ n ∧ n ≤ 6) (hs : 0 ≤ s ∧ s < 64) (hgr : 0 ≤ g ∧ g < μ m 13) (hh : ∀ L : List Value, V l G cX8_orders (yX8_orders, 5, (some FieldType.int), 3, 0, 0) P (0, 0) S μ 142 ([.ref m, vi s, vi g, vi (b2i (MayP R (μ (m + 10)) (μ m 13) s g))] ++ L) []) : ∀ (N : Nat) (i z : Int), (0 ≤ i ∧ i ≤ μ m 13) → μ m 13 - i < N → z = b2i (¬ tb s g ∧ ∀ k : Int, 0 ≤ k → k < i → (R (μ (m + 10) k) (μ (m + 10) g) ∧ ¬ R (μ (m + 10) g) (μ (m + 10) k)) → tb s k) → V l G cX8_orders (yX8_orders, 5, (some FieldType.int), 3, 0, 0) P (0, 0) S μ 82 [.ref m, vi s, vi g, vi z, vi i] [] := by
  intro N
  induction N with
  | zero => intros; omega
  | succ N ih =>
    intro i z h0 h1 hz
    have hgn := hg.n hn.1
    have hgi := fun q => hg.gr (g := i) hn.1 h0.1 q
    have hgg := hg.gr (g := g) hn.1 hgr.1 hgr.2
    have hb := b2i_r (p := tb s i)
    refine v_iload aX8_orders_82 rfl ?_
    refine v_aload_n aX8_orders_84 rfl ?_
    refine v_gi 13 rfl aX8_orders_85 fX8_118 hM.p rfl rfl ?_
    refine v_icmp_ge 142 rfl aX8_orders_88 (by omega) (by omega) (fun c88 => ?_) (fun c88 => ?_)
    · --
      obtain rfl : i = μ m 13 := by omega
      rw [hz]
      exact hh [vi _]
    · --
      have hgi := (hgi (by omega)).1
      refine v_iload_n aX8_orders_91 rfl ?_
      refine v_top hz ?_
      refine v_if_eq_b 134 rfl aX8_orders_92 (fun c92 => ?_) (fun c92 => ?_)
      · --
        refine v_iconst aX8_orders_134 ?_
        refine v_istore_n aX8_orders_135 (by decide) rfl ?_
        refine v_iinc aX8_orders_136 rfl (by decide) rfl ?_
        refine v_goto 82 rfl aX8_orders_139 ?_
        refine ih (i + 1) _ (by omega) (by omega) (b2i_f (fun q => c92 ⟨q.1, fun k k0 k1 k2 => q.2 k k0 (by omega) k2⟩)).symm
      · --
        refine v_aload_n aX8_orders_95 rfl ?_
        refine v_getr aX8_orders_96 fX8_35 hM.p rfl rfl ?_
        refine v_bipush (by decide) aX8_orders_99 ?_
        refine v_aload_n aX8_orders_101 rfl ?_
        refine v_getr aX8_orders_102 fX8_42 hM.p rfl rfl ?_
        refine v_iload aX8_orders_105 rfl ?_
        refine v_iald aX8_orders_107 hM.p_group (by omega) (by decide) ?_
        refine v_imul aX8_orders_108 ?_
        refine v_aload_n aX8_orders_109 rfl ?_
        refine v_getr aX8_orders_110 fX8_42 hM.p rfl rfl ?_
        refine v_iload_n aX8_orders_113 rfl ?_
        refine v_iald aX8_orders_114 hM.p_group (by omega) (by decide) ?_
        refine v_iadd aX8_orders_115 ?_
        refine v_zald aX8_orders_116 hM.p_over (by omega) (by decide) ?_
        rw [hf.2 (μ (m + 10) i) (μ (m + 10) g) (by omega) (by omega) (by omega) (by omega)]
        refine v_if_eq_b 130 rfl aX8_orders_117 (fun c117 => ?_) (fun c117 => ?_)
        · --
          refine v_iconst aX8_orders_130 ?_
          refine v_goto 135 rfl aX8_orders_131 ?_
          refine v_istore_n aX8_orders_135 (by decide) rfl ?_
          refine v_iinc aX8_orders_136 rfl (by decide) rfl ?_
          refine v_goto 82 rfl aX8_orders_139 ?_
          refine ih (i + 1) _ (by omega) (by omega) (b2i_t ⟨c92.1, fun k k0 k1 k2 => ?_⟩).symm
          by_cases e : k = i
          · rw [e] at k2; exact absurd k2 c117
          · exact c92.2 k k0 (by omega) k2
        · --
          refine v_iload_n aX8_orders_120 rfl ?_
          refine v_iload aX8_orders_121 rfl ?_
          refine v_ishr aX8_orders_123 ?_
          refine v_iconst aX8_orders_124 ?_
          refine v_iand aX8_orders_125 ?_
          refine v_top (bit01 (by omega)) ?_
          refine v_iconst aX8_orders_126 ?_
          refine v_icmp_ne 134 rfl aX8_orders_127 (by omega) (by omega) (fun c127 => ?_) (fun c127 => ?_)
          · --
            refine v_iconst aX8_orders_134 ?_
            refine v_istore_n aX8_orders_135 (by decide) rfl ?_
            refine v_iinc aX8_orders_136 rfl (by decide) rfl ?_
            refine v_goto 82 rfl aX8_orders_139 ?_
            refine ih (i + 1) _ (by omega) (by omega) (b2i_f (fun q => c127 (b2i_t (q.2 i h0.1 (by omega) c117)))).symm
          · --
            refine v_iconst aX8_orders_130 ?_
            refine v_goto 135 rfl aX8_orders_131 ?_
            refine v_istore_n aX8_orders_135 (by decide) rfl ?_
            refine v_iinc aX8_orders_136 rfl (by decide) rfl ?_
            refine v_goto 82 rfl aX8_orders_139 ?_
            refine ih (i + 1) _ (by omega) (by omega) (b2i_t ⟨c92.1, fun k k0 k1 k2 => ?_⟩).symm
            by_cases e : k = i
            · rw [e]; exact b2i_1.mp c127
            · exact c92.2 k k0 (by omega) k2
set_option maxHeartbeats 4000000 in
set_option maxRecDepth 100000 in
theorem l3_X8_orders {μ0 : Mu} {s : Int} {P : Pst} (hM : ModS S m) (hf : FolR μ0 m R) (hg : GrAt μ0 m R n) (hn : 0 ≤ n ∧ n ≤ 6) (hs : 0 ≤ s ∧ s < 64) (hh : ∀ (w : Int → Int) (L : List Value), MI R (μ0 (m + 10)) (μ0 m 13) w s (μ0 m 13) → V l G cX8_orders (yX8_orders, 5, (some FieldType.int), 3, 0, 0) P (0, 0) S (row μ0 (m + 12) w) 171 ([.ref m, vi s] ++ L) []) : ∀ (N : Nat) (i : Int) (w : Int → Int) (L : List Value), (0 ≤ i ∧ i ≤ μ0 m 13) → μ0 m 13 - i < N → MI R (μ0 (m + 10)) (μ0 m 13) w s i → V l G cX8_orders (yX8_orders, 5, (some FieldType.int), 3, 0, 0) P (0, 0) S (row μ0 (m + 12) w) 57 ([.ref m, vi s, vi i] ++ L) [] := by
  intro N
  induction N with
  | zero => intros; omega
  | succ N ih =>
    intro i w L h0 h1 hw
    have hgn := hg.n hn.1
    have hp : (2 : Nat) ^ 6 = 64 := rfl
    have hf1 : FolR (row μ0 (m + 12) w) m R := by unfold FolR; rw [row_ne (by omega), row_ne (by omega)]; exact hf
    have hg1 : GrAt (row μ0 (m + 12) w) m R n := hg.kp (by rw [row_ne (by omega)]) (row_ne (by omega)) (row_ne (by omega))
    have h13 : row μ0 (m + 12) w m 13 = μ0 m 13 := by rw [row_ne (by omega)]
    have h10 : row μ0 (m + 12) w (m + 10) = μ0 (m + 10) := row_ne (by omega)
    have hor := or_rng (a := s) (b := iShl 1 i) 6 (by decide) (by omega) 
    have hb := b2i_r (p := tb s i)
    refine v_take 3 rfl ?_
    show V _ _ _ _ _ _ _ _ _ [.ref m, vi s, vi i] _
    refine v_iload_n aX8_orders_57 rfl ?_
    refine v_aload_n aX8_orders_58 rfl ?_
    refine v_gi 13 rfl aX8_orders_59 fX8_118 hM.p rfl rfl ?_
    rw [h13]
    refine v_icmp_ge 171 rfl aX8_orders_62 (by omega) (by omega) (fun c62 => ?_) (fun c62 => ?_)
    · --
      obtain rfl : i = μ0 m 13 := by omega
      exact hh w [vi _] hw
    · --
      have hor := hor (shl1_rng 6 (by decide) (by omega))
      refine v_iload_n aX8_orders_65 rfl ?_
      refine v_iload_n aX8_orders_66 rfl ?_
      refine v_ishr aX8_orders_67 ?_
      refine v_iconst aX8_orders_68 ?_
      refine v_iand aX8_orders_69 ?_
      refine v_top (bit01 (by omega)) ?_
      refine v_if_ne_b 77 rfl aX8_orders_70 (fun c70 => ?_) (fun c70 => ?_)
      · --
        refine v_iconst aX8_orders_77 ?_
        refine v_istore_n aX8_orders_78 (by decide) rfl ?_
        refine v_iconst aX8_orders_79 ?_
        refine v_istore aX8_orders_80 (by decide) rfl ?_
        refine l2_X8_orders (g := i) hM hf1 hg1 hn hs (by omega) (fun L2 => ?_) 7 0 _ (by omega) (by omega) ?_
        · refine v_take 4 rfl ?_
          show V _ _ _ _ _ _ _ _ _ [.ref m, vi s, vi i, vi _] _
          rw [h13, h10]
          refine v_iload_n aX8_orders_142 rfl ?_
          refine v_if_eq_b 165 rfl aX8_orders_143 (fun c143 => ?_) (fun c143 => ?_)
          · --
            refine v_iinc aX8_orders_165 rfl (by decide) rfl ?_
            refine v_goto 57 rfl aX8_orders_168 ?_
            exact ih (i + 1) _ [vi _] (by omega) (by omega) (MI_no hw (by omega) c143)
          · --
            refine v_aload_n aX8_orders_146 rfl ?_
            refine v_getr aX8_orders_147 fX8_48 hM.p rfl rfl ?_
            refine v_iload_n aX8_orders_150 rfl ?_
            refine v_iconst aX8_orders_151 ?_
            refine v_iload_n aX8_orders_152 rfl ?_
            refine v_ishl aX8_orders_153 ?_
            refine v_ior aX8_orders_154 ?_
            refine v_dup2 rfl rfl aX8_orders_155 ?_
            refine v_iald aX8_orders_156 hM.p_ways (by omega) (by decide) ?_
            refine v_aload_n aX8_orders_157 rfl ?_
            refine v_getr aX8_orders_158 fX8_48 hM.p rfl rfl ?_
            refine v_iload_n aX8_orders_161 rfl ?_
            refine v_iald aX8_orders_162 hM.p_ways (by omega) (by decide) ?_
            refine v_iadd aX8_orders_163 ?_
            refine v_iast aX8_orders_164 hM.p_ways (by omega) (by decide) ?_
            refine v_iinc aX8_orders_165 rfl (by decide) rfl ?_
            refine v_goto 57 rfl aX8_orders_168 ?_
            refine v_mu (upd2_iup.trans (by rw [row_same, row_row])) ?_
            exact ih (i + 1) _ [vi _] (by omega) (by omega) (MI_yes hw (by omega) hs (by omega) c143)
        · first
          | exact (b2i_t ⟨c70, fun k k0 k1 => by omega⟩).symm
          | exact (b2i_f (fun q => q.1 c70)).symm
      · --
        refine v_iconst aX8_orders_73 ?_
        refine v_goto 78 rfl aX8_orders_74 ?_
        refine v_istore_n aX8_orders_78 (by decide) rfl ?_
        refine v_iconst aX8_orders_79 ?_
        refine v_istore aX8_orders_80 (by decide) rfl ?_
        refine l2_X8_orders (g := i) hM hf1 hg1 hn hs (by omega) (fun L2 => ?_) 7 0 _ (by omega) (by omega) ?_
        · refine v_take 4 rfl ?_
          show V _ _ _ _ _ _ _ _ _ [.ref m, vi s, vi i, vi _] _
          rw [h13, h10]
          refine v_iload_n aX8_orders_142 rfl ?_
          refine v_if_eq_b 165 rfl aX8_orders_143 (fun c143 => ?_) (fun c143 => ?_)
          · --
            refine v_iinc aX8_orders_165 rfl (by decide) rfl ?_
            refine v_goto 57 rfl aX8_orders_168 ?_
            exact ih (i + 1) _ [vi _] (by omega) (by omega) (MI_no hw (by omega) c143)
          · --
            refine v_aload_n aX8_orders_146 rfl ?_
            refine v_getr aX8_orders_147 fX8_48 hM.p rfl rfl ?_
            refine v_iload_n aX8_orders_150 rfl ?_
            refine v_iconst aX8_orders_151 ?_
            refine v_iload_n aX8_orders_152 rfl ?_
            refine v_ishl aX8_orders_153 ?_
            refine v_ior aX8_orders_154 ?_
            refine v_dup2 rfl rfl aX8_orders_155 ?_
            refine v_iald aX8_orders_156 hM.p_ways (by omega) (by decide) ?_
            refine v_aload_n aX8_orders_157 rfl ?_
            refine v_getr aX8_orders_158 fX8_48 hM.p rfl rfl ?_
            refine v_iload_n aX8_orders_161 rfl ?_
            refine v_iald aX8_orders_162 hM.p_ways (by omega) (by decide) ?_
            refine v_iadd aX8_orders_163 ?_
            refine v_iast aX8_orders_164 hM.p_ways (by omega) (by decide) ?_
            refine v_iinc aX8_orders_165 rfl (by decide) rfl ?_
            refine v_goto 57 rfl aX8_orders_168 ?_
            refine v_mu (upd2_iup.trans (by rw [row_same, row_row])) ?_
            exact ih (i + 1) _ [vi _] (by omega) (by omega) (MI_yes hw (by omega) hs (by omega) c143)
        · first
          | exact (b2i_t ⟨c70, fun k k0 k1 => by omega⟩).symm
          | exact (b2i_f (fun q => q.1 c70)).symm
set_option maxHeartbeats 4000000 in
set_option maxRecDepth 100000 in
theorem l4_X8_orders {μ0 : Mu} {P : Pst} (hM : ModS S m) (hf : FolR μ0 m R) (hg : GrAt μ0 m R n) (hn : 0 ≤ n ∧ n ≤ 6) (hh : ∀ w : Int → Int, MI R (μ0 (m + 10)) (μ0 m 13) w (iShl 1 (μ0 m 13)) 0 → P (some (vi (w (iShl 1 (μ0 m 13) - 1)))) S (row μ0 (m + 12) w)) : ∀ (N : Nat) (s : Int) (w : Int → Int) (L : List Value), (0 ≤ s ∧ s ≤ iShl 1 (μ0 m 13)) → iShl 1 (μ0 m 13) - s < N → MI R (μ0 (m + 10)) (μ0 m 13) w s 0 → V l G cX8_orders (yX8_orders, 5, (some FieldType.int), 3, 0, 0) P (0, 0) S (row μ0 (m + 12) w) 45 ([.ref m, vi s] ++ L) [] := by
  intro N
  induction N with
  | zero => intros; omega
  | succ N ih =>
    intro s w L h0 h1 hw
    have hgn := hg.n hn.1
    have hp : (2 : Nat) ^ 6 = 64 := rfl
    have hf1 : FolR (row μ0 (m + 12) w) m R := by unfold FolR; rw [row_ne (by omega), row_ne (by omega)]; exact hf
    have hg1 : GrAt (row μ0 (m + 12) w) m R n := hg.kp (by rw [row_ne (by omega)]) (row_ne (by omega)) (row_ne (by omega))
    have h13 : row μ0 (m + 12) w m 13 = μ0 m 13 := by rw [row_ne (by omega)]
    have h10 : row μ0 (m + 12) w (m + 10) = μ0 (m + 10) := row_ne (by omega)
    obtain ⟨p1, -⟩ := pow_shl (g := μ0 m 13) (by omega)
    have p2 : (2 : Nat) ^ (μ0 m 13).toNat ≤ 2 ^ 6 := Nat.pow_le_pow_right (by decide) (by omega)
    have p3 : 0 < 2 ^ (μ0 m 13).toNat := Nat.pow_pos (by decide)
    refine v_take 2 rfl ?_
    show V _ _ _ _ _ _ _ _ _ [.ref m, vi s] _
    refine v_iload_n aX8_orders_45 rfl ?_
    refine v_iconst aX8_orders_46 ?_
    refine v_aload_n aX8_orders_47 rfl ?_
    refine v_gi 13 rfl aX8_orders_48 fX8_118 hM.p rfl rfl ?_
    rw [h13]
    refine v_ishl aX8_orders_51 ?_
    refine v_icmp_ge 177 rfl aX8_orders_52 (by omega) (by omega) (fun c52 => ?_) (fun c52 => ?_)
    · --
      refine v_aload_n aX8_orders_177 rfl ?_
      refine v_getr aX8_orders_178 fX8_48 hM.p rfl rfl ?_
      refine v_iconst aX8_orders_181 ?_
      refine v_aload_n aX8_orders_182 rfl ?_
      refine v_gi 13 rfl aX8_orders_183 fX8_118 hM.p rfl rfl ?_
      rw [h13]
      refine v_ishl aX8_orders_186 ?_
      refine v_iconst aX8_orders_187 ?_
      refine v_isub aX8_orders_188 ?_
      refine v_iald aX8_orders_189 hM.p_ways (by omega) (by decide) ?_
      rw [row_same]
      refine v_ireturn aX8_orders_190 rfl ⟨Nat.le_refl _, Nat.le_refl _⟩ ?_
      obtain rfl : s = iShl 1 (μ0 m 13) := by omega
      exact hh w hw
    · --
      refine v_iconst aX8_orders_55 ?_
      refine v_istore_n aX8_orders_56 (by decide) rfl ?_
      refine l3_X8_orders hM hf hg hn (by omega) (fun w2 L2 hw2 => ?_) 7 0 w [] (by omega) (by omega) hw
      refine v_take 2 rfl ?_
      show V _ _ _ _ _ _ _ _ _ [.ref m, vi s] _
      refine v_iinc aX8_orders_171 rfl (by decide) rfl ?_
      refine v_goto 45 rfl aX8_orders_174 ?_
      exact ih (s + 1) w2 [] (by omega) (by omega) (MI_next hw2)
set_option maxHeartbeats 4000000 in
set_option maxRecDepth 100000 in
theorem c_X8_orders (hM : ModS S m) (h : MoAt μ m t g n) (hok : StOk t B) : Ct l G cX8_orders (yX8_orders, 5, (some FieldType.int), 3, 0, 0) [.ref m] S μ (Re S (fun z μ' => OrdQ t z ∧ MoAt μ' m t g n ∧ Out μ μ' m 20)) := by
  obtain ⟨o1, o2, o3, o4, o5⟩ := id hok
  have f0 : μ m 0 = t.1 := h.1.1
  refine Ct.of (by decide) rfl (by simp [vi, Value.category]) (Nat.le_of_ble_eq_true rfl) ?_
  refine v_aload_n aX8_orders_0 rfl ?_
  refine v_cVe (c_X8_followAll hM h.1 hok) aX8_orders_1 mX8_followAll vX8_followAll lX8_111 hM.p rfl rfl rfl rfl rfl (Nat.le_of_ble_eq_true rfl) ⟨Nat.le_of_ble_eq_true rfl, Nat.le_of_ble_eq_true rfl⟩ (Nat.le_of_ble_eq_true rfl) (fun z μ' hz => ?_)
  obtain ⟨rfl, r1, r2⟩ := hz
  have r3 : MoAt μ' m t g n := h.kp (fun i _ => by rw [r2 m (by omega) (by omega)]) (fun q q0 q1 => r2 q (by omega) (by omega))
  have r4 : Out μ μ' m 20 := fun q hq => r2 q (by omega) (by omega)
  have f1 : μ' m 0 = t.1 := r3.1.1
  refine v_if_ne_b 10 rfl aX8_orders_4 (fun c4 => ?_) (fun c4 => ?_)
  · --
    have r5 := r1.toR c4
    refine v_aload_n aX8_orders_10 rfl ?_
    refine v_cVw (c_X8_layGroups hM r5 RT_Rg (by omega)) aX8_orders_11 mX8_layGroups vX8_layGroups lX8_121 hM.p rfl rfl rfl rfl rfl (Nat.le_of_ble_eq_true rfl) ⟨Nat.le_of_ble_eq_true rfl, Nat.le_of_ble_eq_true rfl⟩ (Nat.le_of_ble_eq_true rfl) (fun μ2 hg => ?_)
    obtain ⟨g1, g2, g3⟩ := hg
    rw [f1] at g1
    have g4 : MoAt μ2 m t g n := r3.kp (fun i hi => g2 i (by omega)) (fun q q0 q1 => g3 q (by omega) (by omega) (by omega))
    have g5 : Out μ μ2 m 20 := fun q hq => (g3 q (by omega) (by omega) (by omega)).trans (r4 q hq)
    have g6 : FolR μ2 m (Rg t SA) := by unfold FolR; rw [g3 _ (by omega) (by omega) (by omega), g3 _ (by omega) (by omega) (by omega)]; exact r5
    have g7 := g1.n (show 0 ≤ t.1 by omega)
    refine v_iconst aX8_orders_14 ?_
    refine v_istore_n aX8_orders_15 (by decide) rfl ?_
    refine v_mu (row_id (a := m + 12)).symm ?_
    refine l1_X8_orders hM (fun w hw L => ?_) 65 0 _ (by omega) (by omega) (fun X X0 X1 => by omega)
    refine v_take 1 rfl ?_
    show V _ _ _ _ _ _ _ _ _ [.ref m] _
    refine v_iconst aX8_orders_43 ?_
    refine v_istore_n aX8_orders_44 (by decide) rfl ?_
    refine l4_X8_orders (R := Rg t SA) hM g6 g1 (by omega) (fun w2 hw2 => ⟨_, rfl, rfl, ⟨fun _ => MI_Ord g1 (by omega) hw2, fun q => absurd c4 q⟩, g4.kp (fun i _ => by rw [row_ne (by omega)]) (fun q q0 q1 => row_ne (by omega)), fun q hq => (row_ne (by omega)).trans (g5 q hq)⟩) 65 0 w [] ?_ ?_ (fun X X0 X1 => ?_)
    · have p3 : 0 < 2 ^ (μ2 m 13).toNat := Nat.pow_pos (by decide)
      rw [(pow_shl (by omega)).1]; omega
    · have p2 : (2 : Nat) ^ (μ2 m 13).toNat ≤ 2 ^ 6 := Nat.pow_le_pow_right (by decide) (by omega)
      have hp : (2 : Nat) ^ 6 = 64 := rfl
      rw [(pow_shl (by omega)).1]; omega
    · rw [hw X X0 X1]
      congr 1
      refine (sumN_0 _ (fun i i0 i1 => if_neg (fun q => ?_))).symm
      have q2 := b2i_1.mp q
      have q3 := clr_lt (f := X) (s := i) (by omega) (by omega) q2.1
      have q4 := q2.2.2
      unfold clr at q4
      omega
  · --
    refine v_bipush (by decide) aX8_orders_7 ?_
    refine v_ireturn aX8_orders_9 rfl ⟨Nat.le_refl _, Nat.le_refl _⟩ ?_
    exact ⟨_, rfl, rfl, ⟨fun q => absurd q c4, fun _ => rfl⟩, r3, r4⟩
end MOR
