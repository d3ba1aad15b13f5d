/-! the relation of the class: read -/
def tC (t : BSt) (c : Int) : BSt := (t.1, c, t.2.2)
def edg (t : BSt) (k : Int) : Rl := fun i j => (i = t.2.2.2.1 (5 * k) ∧ j = t.2.2.2.1 (5 * k + 1) ∧ t.2.2.2.1 (5 * k + 2) ≠ 2) ∨ (i = t.2.2.2.1 (5 * k + 1) ∧ j = t.2.2.2.1 (5 * k) ∧ t.2.2.2.1 (5 * k + 2) ≠ 1)
theorem sGe_succ {t : BSt} {Sel : Int → Prop} {c : Int} (hc : 0 ≤ c) (i j : Int) : sGe (tC t (c + 1)) Sel i j ↔ sGe (tC t c) Sel i j ∨ (Sel c ∧ edg t c i j) := by
  constructor
  · rintro ⟨k, h0, h1, h2, h3⟩
    have h1' : k < c + 1 := h1
    by_cases e : k = c
    · subst e; exact Or.inr ⟨h2, h3⟩
    · exact Or.inl ⟨k, h0, show k < c by omega, h2, h3⟩
  · rintro (⟨k, h0, h1, h2, h3⟩ | ⟨h2, h3⟩)
    · have h1' : k < c := h1
      exact ⟨k, h0, show k < c + 1 by omega, h2, h3⟩
    · exact ⟨c, hc, show c < c + 1 by omega, h2, h3⟩
theorem sGe_dom {t : BSt} {Sel : Int → Prop} {B : Int} (ht : StOk t B) {i j : Int} (h : sGe t Sel i j) : (0 ≤ i ∧ i < t.1) ∧ 0 ≤ j ∧ j < t.1 := by
  obtain ⟨k, h0, h1, -, h3⟩ := h
  have := ht.2.2.2.1 k h0 h1
  rcases h3 with ⟨rfl, rfl, -⟩ | ⟨rfl, rfl, -⟩
  · exact ⟨this.1, this.2.1⟩
  · exact ⟨this.2.1, this.1⟩
/-- the saying k can not be, with R -/
def ctr (t : BSt) (R : Rl) (k : Int) : Prop := (t.2.2.2.1 (5 * k + 2) = 1 ∧ R (t.2.2.2.1 (5 * k + 1)) (t.2.2.2.1 (5 * k))) ∨ (t.2.2.2.1 (5 * k + 2) = 2 ∧ R (t.2.2.2.1 (5 * k)) (t.2.2.2.1 (5 * k + 1)))
theorem can_ctr {t : BSt} {Sel : Int → Prop} : Can t Sel ↔ ∀ k : Int, 0 ≤ k → k < t.2.1 → Sel k → ¬ ctr t (Rg t Sel) k := by
  constructor
  · intro h k h0 h1 h2 h3
    rcases h3 with ⟨e, q⟩ | ⟨e, q⟩
    · exact h _ _ ⟨k, h0, h1, h2, Or.inl ⟨rfl, rfl, e⟩⟩ q
    · exact h _ _ ⟨k, h0, h1, h2, Or.inr ⟨rfl, rfl, e⟩⟩ q
  · rintro h a b ⟨k, h0, h1, h2, h3⟩ q
    refine h k h0 h1 h2 ?_
    rcases h3 with ⟨rfl, rfl, e⟩ | ⟨rfl, rfl, e⟩
    · exact Or.inl ⟨e, q⟩
    · exact Or.inr ⟨e, q⟩
theorem rG_wsh {t : BSt} {Sel : Int → Prop} {B : Int} (ht : StOk t B) (i j : Int) : wsh t.1.toNat (fun i j => i = j ∨ sGe t Sel i j) i j ↔ Rg t Sel i j := by
  have hn := ht.1
  rw [wsh_tc t.1.toNat (fun a b q => by
    rcases q with q | q
    · exact Or.inl q
    · have := (sGe_dom ht q).2; exact Or.inr ⟨this.1, by omega⟩)]
  exact ⟨fun h => h.mono fun a b q => (sGe_iff ht a b).mp q, fun h => h.mono fun a b q => (sGe_iff ht a b).mpr q⟩
section READ
variable {l : Launch} {G : Glb} {S : Sh} {μ : Mu} {b k : Nat} {t : BSt} {B : Int}
set_option maxHeartbeats 4000000 in
set_option maxRecDepth 100000 in
theorem l3_X4_read {μ0 : Mu} {lo : Int} {P : Pst} (hR : RelS S b) (hB : BookS S k) (hd : b + 3 ≤ k ∨ k + 19 ≤ b) (ht : BkAt μ0 k t) (hok : StOk t B) {R : Rl} (hh : ∀ μ : Mu, (∀ q : Nat, q ≠ b → q ≠ b + 1 → μ q = μ0 q) → Rows (μ (b + 1)) R → (μ b 2 = t.1 ∧ Msk (μ b 3) (fun j => j < t.1 ∧ Ld R j)) → μ b 4 = b2i (∀ j : Int, 0 ≤ j → j < t.2.1 → ¬ tb lo j → ¬ ctr t R j) → P none S μ) : ∀ (N : Nat) (i : Int) (μ : Mu), (0 ≤ i ∧ i ≤ t.2.1) → t.2.1 - i < N → (∀ q : Nat, q ≠ b → q ≠ b + 1 → μ q = μ0 q) → Rows (μ (b + 1)) R → (μ b 2 = t.1 ∧ Msk (μ b 3) (fun j => j < t.1 ∧ Ld R j)) → μ b 4 = b2i (∀ j : Int, 0 ≤ j → j < i → ¬ tb lo j → ¬ ctr t R j) → V l G cX4_read (yX4_read, 4, none, 4, 0, 0) P (0, 0) S μ 80 [.ref b, .ref k, vi lo, vi i] [] := by
  intro N
  induction N with
  | zero => intro i μ h0 h1; omega
  | succ N ih =>
    intro i μ h0 h1 hq hr h2 h3
    have hk0 : μ k = μ0 k := hq _ (by omega) (by omega)
    have hk6 : μ k 6 = t.1 := by rw [hk0]; exact ht.1
    have hk7 : μ k 7 = t.2.1 := by rw [hk0]; exact ht.2.1
    obtain ⟨o1, o2, o3, o4, o5⟩ := id hok
    have hci : ((i.toNat : Nat) : Int) = i := by omega
    have hrow : i < 12 → S.2 (k + 2 + i.toNat) = some (aI 5) := fun h => hB.p_row i.toNat (by omega)
    have he : i < 12 → ∀ j : Int, 0 ≤ j → j < 5 → μ (k + 2 + i.toNat) j = t.2.2.2.1 (5 * i + j) := fun h j j0 j5 => by
      rw [hq _ (by omega) (by omega), ht.2.2.2.1 i.toNat (by omega) j j0 j5, hci]
    have hb3 := b2i_r (p := (∀ j : Int, 0 ≤ j → j < i → ¬ tb lo j → ¬ ctr t R j))
    have nx : ∀ z : Prop, ((∀ j : Int, 0 ≤ j → j < i → ¬ tb lo j → ¬ ctr t R j) ↔ z) → μ b 4 = b2i z := fun z hz => h3.trans (b2i_c hz)
    refine v_iload_n aX4_read_80 rfl ?_
    refine v_aload_n aX4_read_81 rfl ?_
    refine v_gi 7 rfl aX4_read_82 fX4_25 hB.p rfl rfl ?_
    rw [hk7]
    refine v_icmp_ge 132 rfl aX4_read_85 (by omega) (by omega) (fun c85 => ?_) (fun c85 => ?_)
    · --
      refine v_return aX4_read_132 rfl ⟨Nat.le_refl _, Nat.le_refl _⟩ ?_
      obtain rfl : i = t.2.1 := by omega
      exact hh μ hq hr h2 h3
    · --
      refine v_aload_n aX4_read_88 rfl ?_
      refine v_gi 4 rfl aX4_read_89 fX4_42 hR.p rfl rfl ?_
      rw [h3]
      refine v_if_eq 132 rfl aX4_read_92 (by omega) (fun c92 => ?_) (fun c92 => ?_)
      · --
        refine v_return aX4_read_132 rfl ⟨Nat.le_refl _, Nat.le_refl _⟩ ?_
        refine hh μ hq hr h2 (h3.trans ?_)
        rw [c92]
        refine (b2i_f (fun z => ?_)).symm
        exact b2i_0.mp c92 (fun j j0 j1 jb => z j j0 (by omega) jb)
      · --
        have hrow := hrow (by omega)
        have he := he (by omega)
        have q0 := he 0 (by omega) (by omega)
        have q1 := he 1 (by omega) (by omega)
        have q2 := he 2 (by omega) (by omega)
        rw [Int.add_zero] at q0
        have q9 := o4 i (by omega) (by omega)
        refine v_aload_n aX4_read_95 rfl ?_
        refine v_iload_n aX4_read_96 rfl ?_
        refine v_iload_n aX4_read_97 rfl ?_
        refine v_ishr aX4_read_98 ?_
        refine v_iconst aX4_read_99 ?_
        refine v_iand aX4_read_100 ?_
        refine v_top (bit01 (by omega)) ?_
        have hb9 := b2i_r (p := tb lo i)
        refine v_iconst aX4_read_101 ?_
        refine v_icmp_eq 118 rfl aX4_read_102 (by omega) (by omega) (fun c102 => ?_) (fun c102 => ?_)
        · --
          refine v_iconst aX4_read_118 ?_
          refine v_goto 123 rfl aX4_read_119 ?_
          refine v_pi 4 rfl aX4_read_123 fX4_42 nf4_4 (ok4_4 (by first | exact Or.inl rfl | exact Or.inr rfl | exact b2i_01 | omega)) hR.p rfl rfl ?_
          refine v_iinc aX4_read_126 rfl (by decide) rfl ?_
          refine v_goto 80 rfl aX4_read_129 ?_
          refine ih (i + 1) _ (by omega) (by omega) (fun q a1 a2 => by rw [upd2_row a1]; exact hq q a1 a2) (by rw [upd2_row (by omega)]; exact hr) (by rw [upd2_ap, if_neg (by omega), upd2_ap, if_neg (by omega)]; exact h2) ?_
          rw [upd2_same]
          refine (b2i_t (fun j j0 j1 jb => ?_)).symm
          by_cases e : j = i
          · subst e; exact absurd (b2i_1.mp c102) jb
          · have c92' : (∀ j : Int, 0 ≤ j → j < i → ¬ tb lo j → ¬ ctr t R j) := Classical.byContradiction fun z => c92 (b2i_f z)
            exact c92' j j0 (by omega) jb
        · --
          refine v_aload_n aX4_read_105 rfl ?_
          refine v_aload_n aX4_read_106 rfl ?_
          refine v_getr aX4_read_107 fX4_28 hB.p rfl rfl ?_
          refine v_iload_n aX4_read_110 rfl ?_
          refine v_aaldR (kk := 102) (q := k + 2 + i.toNat) rfl rfl aX4_read_111 hB.p_sayings (by omega) (by decide) (by simp; omega) ?_
          refine v_cVi (c_X4_contradicts hR hr hrow (by omega) (by omega) (by omega) (by omega)) aX4_read_112 mX4_contradicts vX4_contradicts lX4_46 hR.p rfl rfl rfl rfl rfl (Nat.le_of_ble_eq_true rfl) ⟨Nat.le_of_ble_eq_true rfl, Nat.le_of_ble_eq_true rfl⟩ (Nat.le_of_ble_eq_true rfl) ?_
          refine v_if_ne_b 122 rfl aX4_read_115 (fun c115 => ?_) (fun c115 => ?_)
          · --
            refine v_iconst aX4_read_122 ?_
            refine v_pi 4 rfl aX4_read_123 fX4_42 nf4_4 (ok4_4 (by first | exact Or.inl rfl | exact Or.inr rfl | exact b2i_01 | omega)) hR.p rfl rfl ?_
            refine v_iinc aX4_read_126 rfl (by decide) rfl ?_
            refine v_goto 80 rfl aX4_read_129 ?_
            refine ih (i + 1) _ (by omega) (by omega) (fun q a1 a2 => by rw [upd2_row a1]; exact hq q a1 a2) (by rw [upd2_row (by omega)]; exact hr) (by rw [upd2_ap, if_neg (by omega), upd2_ap, if_neg (by omega)]; exact h2) ?_
            rw [upd2_same]
            refine (b2i_f (fun z => ?_)).symm
            refine z i (by omega) (by omega) (fun y => c102 (b2i_t y)) ?_
            rw [q0, q1, q2] at c115
            exact c115
          · --
            refine v_iconst aX4_read_118 ?_
            refine v_goto 123 rfl aX4_read_119 ?_
            refine v_pi 4 rfl aX4_read_123 fX4_42 nf4_4 (ok4_4 (by first | exact Or.inl rfl | exact Or.inr rfl | exact b2i_01 | omega)) hR.p rfl rfl ?_
            refine v_iinc aX4_read_126 rfl (by decide) rfl ?_
            refine v_goto 80 rfl aX4_read_129 ?_
            refine ih (i + 1) _ (by omega) (by omega) (fun q a1 a2 => by rw [upd2_row a1]; exact hq q a1 a2) (by rw [upd2_row (by omega)]; exact hr) (by rw [upd2_ap, if_neg (by omega), upd2_ap, if_neg (by omega)]; exact h2) ?_
            rw [upd2_same]
            refine (b2i_t (fun j j0 j1 jb => ?_)).symm
            by_cases e : j = i
            · subst e
              rw [q0, q1, q2] at c115
              exact c115
            · have c92' : (∀ j : Int, 0 ≤ j → j < i → ¬ tb lo j → ¬ ctr t R j) := Classical.byContradiction fun z => c92 (b2i_f z)
              exact c92' j j0 (by omega) jb
set_option maxHeartbeats 4000000 in
set_option maxRecDepth 100000 in
theorem l2_X4_read {μ0 : Mu} {lo : Int} {P : Pst} (hR : RelS S b) (hB : BookS S k) (hd : b + 3 ≤ k ∨ k + 19 ≤ b) (ht : BkAt μ0 k t) (hok : StOk t B) (hn : ∀ μ : Mu, (∀ q : Nat, q ≠ b → q ≠ b + 1 → μ q = μ0 q) → Rows (μ (b + 1)) (fun a c => a = c ∨ sGe (tC t t.2.1) (fun j => ¬ tb lo j) a c) → μ b 2 = t.1 → ∀ L : List Value, V l G cX4_read (yX4_read, 4, none, 4, 0, 0) P (0, 0) S μ 65 (.ref b :: .ref k :: vi lo :: L) []) : ∀ (N : Nat) (i : Int) (μ : Mu), (0 ≤ i ∧ i ≤ t.2.1) → t.2.1 - i < N → (∀ q : Nat, q ≠ b → q ≠ b + 1 → μ q = μ0 q) → Rows (μ (b + 1)) (fun a c => a = c ∨ sGe (tC t i) (fun j => ¬ tb lo j) a c) → μ b 2 = t.1 → V l G cX4_read (yX4_read, 4, none, 4, 0, 0) P (0, 0) S μ 33 [.ref b, .ref k, vi lo, vi i] [] := by
  intro N
  induction N with
  | zero => intro i μ h0 h1; omega
  | succ N ih =>
    intro i μ h0 h1 hq hr h2
    have hk0 : μ k = μ0 k := hq _ (by omega) (by omega)
    have hk6 : μ k 6 = t.1 := by rw [hk0]; exact ht.1
    have hk7 : μ k 7 = t.2.1 := by rw [hk0]; exact ht.2.1
    obtain ⟨o1, o2, o3, o4, o5⟩ := id hok
    have hci : ((i.toNat : Nat) : Int) = i := by omega
    have hrow : i < 12 → S.2 (k + 2 + i.toNat) = some (aI 5) := fun h => hB.p_row i.toNat (by omega)
    have he : i < 12 → ∀ j : Int, 0 ≤ j → j < 5 → μ (k + 2 + i.toNat) j = t.2.2.2.1 (5 * i + j) := fun h j j0 j5 => by
      rw [hq _ (by omega) (by omega), ht.2.2.2.1 i.toNat (by omega) j j0 j5, hci]
    refine v_iload_n aX4_read_33 rfl ?_
    refine v_aload_n aX4_read_34 rfl ?_
    refine v_gi 7 rfl aX4_read_35 fX4_25 hB.p rfl rfl ?_
    rw [hk7]
    refine v_icmp_ge 65 rfl aX4_read_38 (by omega) (by omega) (fun c38 => ?_) (fun c38 => ?_)
    · --
      obtain rfl : i = t.2.1 := by omega
      exact hn μ hq hr h2 _
    · --
      have hrow := hrow (by omega)
      have he := he (by omega)
      have q0 := he 0 (by omega) (by omega)
      have q1 := he 1 (by omega) (by omega)
      have q2 := he 2 (by omega) (by omega)
      rw [Int.add_zero] at q0
      have q9 := o4 i (by omega) (by omega)
      refine v_iload_n aX4_read_41 rfl ?_
      refine v_iload_n aX4_read_42 rfl ?_
      refine v_ishr aX4_read_43 ?_
      refine v_iconst aX4_read_44 ?_
      refine v_iand aX4_read_45 ?_
      refine v_top (bit01 (by omega)) ?_
      refine v_if_ne_b 59 rfl aX4_read_46 (fun c46 => ?_) (fun c46 => ?_)
      · --
        refine v_iinc aX4_read_59 rfl (by decide) rfl ?_
        refine v_goto 33 rfl aX4_read_62 ?_
        refine ih (i + 1) μ (by omega) (by omega) hq (hr.eq fun a c _ _ _ _ => ?_) h2
        rw [sGe_succ (by omega)]
        exact ⟨fun z => z.elim Or.inl (fun y => Or.inr (Or.inl y)), fun z => z.elim Or.inl (fun y => y.elim Or.inr (fun w => absurd c46 w.1))⟩
      · --
        refine v_aload_n aX4_read_49 rfl ?_
        refine v_aload_n aX4_read_50 rfl ?_
        refine v_getr aX4_read_51 fX4_28 hB.p rfl rfl ?_
        refine v_iload_n aX4_read_54 rfl ?_
        refine v_aaldR (kk := 102) (q := k + 2 + i.toNat) rfl rfl aX4_read_55 hB.p_sayings (by omega) (by decide) (by simp; omega) ?_
        refine v_cVw (c_X4_believe hR hr hrow (by omega) (by omega) (by omega) (by omega)) aX4_read_56 mX4_believe vX4_believe lX4_32 hR.p rfl rfl rfl rfl rfl (Nat.le_of_ble_eq_true rfl) ⟨Nat.le_of_ble_eq_true rfl, Nat.le_of_ble_eq_true rfl⟩ (Nat.le_of_ble_eq_true rfl) (fun μ1 ⟨g1, e1, r1⟩ => ?_)
        refine v_iinc aX4_read_59 rfl (by decide) rfl ?_
        refine v_goto 33 rfl aX4_read_62 ?_
        subst e1
        refine ih (i + 1) _ (by omega) (by omega) (fun q a1 a2 => by rw [row_ne a2]; exact hq q a1 a2) ?_ (by rw [row_ne (by omega)]; exact h2)
        rw [row_same]
        refine r1.eq fun a c _ _ _ _ => ?_
        rw [sGe_succ (by omega), q0, q1, q2]
        exact ⟨fun z => z.elim (fun y => y.elim Or.inl (fun w => Or.inr (Or.inl w))) (fun y => Or.inr (Or.inr ⟨c46, y⟩)), fun z => z.elim (fun y => Or.inl (Or.inl y)) (fun y => y.elim (fun w => Or.inl (Or.inr w)) (fun w => Or.inr w.2))⟩
set_option maxHeartbeats 4000000 in
set_option maxRecDepth 100000 in
theorem l1_X4_read {μ0 : Mu} {lo : Int} {P : Pst} (hR : RelS S b) (hB : BookS S k) (hd : b + 3 ≤ k ∨ k + 19 ≤ b) (ht : BkAt μ0 k t) (hok : StOk t B) (hn : ∀ μ : Mu, (∀ q : Nat, q ≠ b → q ≠ b + 1 → μ q = μ0 q) → Rows (μ (b + 1)) (fun i j => i = j) → μ b 2 = t.1 → ∀ L : List Value, V l G cX4_read (yX4_read, 4, none, 4, 0, 0) P (0, 0) S μ 31 (.ref b :: .ref k :: vi lo :: L) []) : ∀ (N : Nat) (i : Int) (μ : Mu), (0 ≤ i ∧ i ≤ 6) → 6 - i < N → (∀ q : Nat, q ≠ b → q ≠ b + 1 → μ q = μ0 q) → (∀ j : Int, 0 ≤ j → j < i → μ (b + 1) j = iShl 1 j) → μ b 2 = t.1 → V l G cX4_read (yX4_read, 4, none, 4, 0, 0) P (0, 0) S μ 10 [.ref b, .ref k, vi lo, vi i] [] := by
  intro N
  induction N with
  | zero => intro i μ h0 h1; omega
  | succ N ih =>
    intro i μ h0 h1 hq hr h2
    refine v_iload_n aX4_read_10 rfl ?_
    refine v_bipush (by decide) aX4_read_11 ?_
    refine v_icmp_ge 31 rfl aX4_read_13 (by omega) (by omega) (fun c13 => ?_) (fun c13 => ?_)
    · --
      refine hn μ hq (fun a a0 a6 => ?_) h2 _
      rw [hr a a0 (by omega)]
      refine ⟨shl1_rng 6 (by decide) (by omega), fun j j0 j6 => ?_⟩
      rw [tb_shl1 (by omega) (by omega)]
      exact eq_comm
    · --
      refine v_aload_n aX4_read_16 rfl ?_
      refine v_getr aX4_read_17 fX4_9 hR.p rfl rfl ?_
      refine v_iload_n aX4_read_20 rfl ?_
      refine v_iconst aX4_read_21 ?_
      refine v_iload_n aX4_read_22 rfl ?_
      refine v_ishl aX4_read_23 ?_
      refine v_iast aX4_read_24 hR.p_noLess (by omega) (by decide) ?_
      refine v_iinc aX4_read_25 rfl (by decide) rfl ?_
      refine v_goto 10 rfl aX4_read_28 ?_
      refine ih (i + 1) _ (by omega) (by omega) (fun q a1 a2 => by rw [upd2_row a2]; exact hq q a1 a2) (fun j j0 j1 => ?_) (by rw [upd2_row (by omega)]; exact h2)
      by_cases e : j = i
      · subst e; rw [upd2_same]
      · rw [upd2_ap, if_neg (by omega)]; exact hr j j0 (by omega)
set_option maxHeartbeats 4000000 in
set_option maxRecDepth 100000 in
theorem c_X4_read {lo : Int} (hR : RelS S b) (hB : BookS S k) (hd : b + 3 ≤ k ∨ k + 19 ≤ b) (ht : BkAt μ k t) (hok : StOk t B) : Ct l G cX4_read (yX4_read, 4, none, 4, 0, 0) [.ref b, .ref k, vi lo] S μ (Rw S (fun μ' => Rows (μ' (b + 1)) (Rg t (fun j => ¬ tb lo j)) ∧ μ' b 2 = t.1 ∧ μ' b 4 = b2i (Can t (fun j => ¬ tb lo j)) ∧ Msk (μ' b 3) (fun j => j < t.1 ∧ Ld (Rg t (fun j => ¬ tb lo j)) j) ∧ ∀ q : Nat, q ≠ b → q ≠ b + 1 → μ' q = μ q)) := by
  obtain ⟨o1, o2, o3, o4, o5⟩ := id hok
  have t6 : μ k 6 = t.1 := ht.1
  refine Ct.of (by decide) rfl (by simp [vi, Value.category]) (Nat.le_of_ble_eq_true rfl) ?_
  refine v_aload_n aX4_read_0 rfl ?_
  refine v_aload_n aX4_read_1 rfl ?_
  refine v_gi 6 rfl aX4_read_2 fX4_18 hB.p rfl rfl ?_
  rw [t6]
  refine v_pi 2 rfl aX4_read_5 fX4_24 nf4_2 ok4_2 hR.p rfl rfl ?_
  refine v_iconst aX4_read_8 ?_
  refine v_istore_n aX4_read_9 (by decide) rfl ?_
  refine l1_X4_read (μ0 := μ) hR hB hd ht hok (fun μ1 a1 a2 a3 L => ?_) 7 0 _ (by omega) (by omega) (fun q e1 e2 => upd2_row e1) (fun j j0 j1 => by omega) (by rw [upd2_same])
  refine v_take 3 rfl ?_
  refine v_iconst aX4_read_31 ?_
  refine v_istore_n aX4_read_32 (by decide) rfl ?_
  refine l2_X4_read (μ0 := μ) hR hB hd ht hok (fun μ2 b1 b2 b3 L2 => ?_) 13 0 μ1 (by omega) (by omega) a1 (a2.eq fun a c _ _ _ _ => ⟨Or.inl, fun z => z.elim id (fun ⟨k, h0, h1, _⟩ => absurd h1 (by show ¬ k < 0; omega))⟩) a3
  refine v_take 3 rfl ?_
  have b2' : Rows (μ2 (b + 1)) (fun i j => i = j ∨ sGe t (fun j => ¬ tb lo j) i j) := b2
  refine v_aload_n aX4_read_65 rfl ?_
  refine v_cVw (c_X4_close hR b2' (by omega) (fun a j q => q.elim Or.inl (fun y => Or.inr (by have := (sGe_dom hok y).1; omega)))) aX4_read_66 mX4_close vX4_close lX4_36 hR.p rfl rfl rfl rfl rfl (Nat.le_of_ble_eq_true rfl) ⟨Nat.le_of_ble_eq_true rfl, Nat.le_of_ble_eq_true rfl⟩ (Nat.le_of_ble_eq_true rfl) (fun μ3 ⟨g3, e3, r3⟩ => ?_)
  subst e3
  rw [b3] at r3
  have r4 : Rows (row μ2 (b + 1) g3 (b + 1)) (Rg t (fun j => ¬ tb lo j)) := by
    rw [row_same]
    exact r3.eq fun a c _ _ _ _ => rG_wsh hok a c
  have b4 : row μ2 (b + 1) g3 b 2 = t.1 := by rw [row_ne (by omega)]; exact b3
  refine v_aload_n aX4_read_69 rfl ?_
  refine v_cVw (c_X4_findLeaders hR r4 (by omega)) aX4_read_70 mX4_findLeaders vX4_findLeaders lX4_39 hR.p rfl rfl rfl rfl rfl (Nat.le_of_ble_eq_true rfl) ⟨Nat.le_of_ble_eq_true rfl, Nat.le_of_ble_eq_true rfl⟩ (Nat.le_of_ble_eq_true rfl) (fun μ4 ⟨z4, e4, m4⟩ => ?_)
  subst e4
  rw [b4] at m4
  refine v_aload_n aX4_read_73 rfl ?_
  refine v_iconst aX4_read_74 ?_
  refine v_pi 4 rfl aX4_read_75 fX4_42 nf4_4 (ok4_4 (by first | exact Or.inl rfl | exact Or.inr rfl | exact b2i_01 | omega)) hR.p rfl rfl ?_
  refine v_iconst aX4_read_78 ?_
  refine v_istore_n aX4_read_79 (by decide) rfl ?_
  refine l3_X4_read (μ0 := μ) (R := Rg t (fun j => ¬ tb lo j)) hR hB hd ht hok (fun μ5 d1 d2 d3 d4 => ⟨rfl, rfl, d2, d3.1, d4.trans (b2i_c can_ctr.symm), d3.2, d1⟩) 13 0 _ (by omega) (by omega) (fun q e1 e2 => by rw [upd2_row e1, upd2_row e1, row_ne e2]; exact b1 q e1 e2) ?_ ⟨?_, ?_⟩ (by rw [upd2_same]; exact (b2i_t (fun j j0 j1 => by omega)).symm)
  · rw [upd2_row (by omega), upd2_row (by omega)]; exact r4
  · rw [upd2_ap, if_neg (by omega), upd2_ap, if_neg (by omega)]; exact b4
  · rw [upd2_ap, if_neg (by omega), upd2_same]; exact m4
end READ
