/-! the book of the class, and what it holds as one value: sacks, sayings, loss, the sayings in one row of sixty, lifts, least, greatest, tolls, weights -/
abbrev BSt : Type := Int × Int × Int × (Int → Int) × (Int → Int) × (Int → Int) × (Int → Int) × (Int → Int) × (Int → Int)
def Eq6 (f g : Int → Int) : Prop := ∀ i : Int, 0 ≤ i → i < 6 → f i = g i
theorem Eq6.rf {f : Int → Int} : Eq6 f f := fun _ _ _ => rfl
def BkAt (μ : Mu) (b : Nat) (t : BSt) : Prop := μ b 6 = t.1 ∧ μ b 7 = t.2.1 ∧ μ b 8 = t.2.2.1 ∧ (∀ i : Nat, i < 12 → ∀ j : Int, 0 ≤ j → j < 5 → μ (b + 2 + i) j = t.2.2.2.1 (5 * i + j)) ∧ Eq6 (μ (b + 14)) t.2.2.2.2.1 ∧ Eq6 (μ (b + 15)) t.2.2.2.2.2.1 ∧ Eq6 (μ (b + 16)) t.2.2.2.2.2.2.1 ∧ Eq6 (μ (b + 17)) t.2.2.2.2.2.2.2.1 ∧ Eq6 (μ (b + 18)) t.2.2.2.2.2.2.2.2
/-- nothing changed outside the n cells from b on -/
def Out (μ μ' : Mu) (b n : Nat) : Prop := ∀ q : Nat, (q < b ∨ b + n ≤ q) → μ' q = μ q
/-- the cells of a book stayed -/
theorem BkAt.kept {μ μ' : Mu} {b : Nat} {t : BSt} (h : BkAt μ b t) (e : ∀ q : Nat, b ≤ q → q < b + 19 → μ' q = μ q) : BkAt μ' b t := by
  obtain ⟨h1, h2, h3, h4, h5, h6, h7, h8, h9⟩ := h
  refine ⟨by rw [e b (by omega) (by omega)]; exact h1, by rw [e b (by omega) (by omega)]; exact h2, by rw [e b (by omega) (by omega)]; exact h3, fun i hi j h0 hj => by rw [e _ (by omega) (by omega)]; exact h4 i hi j h0 hj, ?_, ?_, ?_, ?_, ?_⟩ <;> rw [e _ (by omega) (by omega)] <;> assumption
/-- one saying more -/
def ladd (K L : Int → Int) (c s p h : Int) : Int → Int := fun z => if z = 5 * c then s else if z = 5 * c + 1 then p else if z = 5 * c + 2 then h else if z = 5 * c + 3 then L s else if z = 5 * c + 4 then L p else K z
abbrev LSt : Type := (Int → Int) × (Int → Int) × Int
def lstep (g : Int → Int) (p : Int) (t : LSt) : LSt := (ladd t.1 (iup t.2.1 (g p - 97) (t.2.1 (g p - 97) + 1)) t.2.2 (g p - 97) (g (p - 2) - 97) (how (g (p - 1))), iup t.2.1 (g p - 97) (t.2.1 (g p - 97) + 1), t.2.2 + 1)
/-- a line of n signs, from place p on -/
def lnd (g : Int → Int) (n : Int) : Nat → Int → LSt → LSt
  | 0, _, t => t
  | m + 1, p, t => if p < n then lnd g n m (p + 2) (lstep g p t) else t
section BOOK
variable {l : Launch} {G : Glb} {S : Sh} {μ : Mu} {b : Nat}
set_option maxHeartbeats 4000000 in
set_option maxRecDepth 100000 in
theorem c_X0_has {s : Int} (hB : BookS S b) (hs : (-2147483648 ≤ s ∧ s < 2147483648)) (hn : 0 ≤ μ b 6 ∧ μ b 6 ≤ 6) : Ct l G cX0_has (yX0_has, 2, (some FieldType.boolean), 0, 0, 0) [.ref b, vi s] S μ (Ri S (b2i (0 ≤ s ∧ s < μ b 6)) μ) := by
  refine Ct.of (by decide) rfl (by simp [vi, Value.category]) (Nat.le_of_ble_eq_true rfl) ?_
  refine v_iload_n aX0_has_0 rfl ?_
  refine v_if_lt 16 rfl aX0_has_1 (by omega) (fun c1 => ?_) (fun c1 => ?_)
  · --
    refine v_iconst aX0_has_16 ?_
    refine v_zreturn aX0_has_17 rfl ⟨Nat.le_refl _, Nat.le_refl _⟩ (by first | exact Or.inl rfl | exact Or.inr rfl | exact b2i_01 | omega) ?_
    first
      | exact ⟨by rw [b2i_t (by omega)], rfl, rfl⟩
      | exact ⟨by rw [b2i_f (by omega)], rfl, rfl⟩
  · --
    refine v_iload_n aX0_has_4 rfl ?_
    refine v_aload_n aX0_has_5 rfl ?_
    refine v_gi 6 rfl aX0_has_6 fX0_36 hB.p rfl rfl ?_
    refine v_icmp_ge 16 rfl aX0_has_9 (by omega) (by omega) (fun c9 => ?_) (fun c9 => ?_)
    · --
      refine v_iconst aX0_has_16 ?_
      refine v_zreturn aX0_has_17 rfl ⟨Nat.le_refl _, Nat.le_refl _⟩ (by first | exact Or.inl rfl | exact Or.inr rfl | exact b2i_01 | omega) ?_
      first
        | exact ⟨by rw [b2i_t (by omega)], rfl, rfl⟩
        | exact ⟨by rw [b2i_f (by omega)], rfl, rfl⟩
    · --
      refine v_iconst aX0_has_12 ?_
      refine v_goto 17 rfl aX0_has_13 ?_
      refine v_zreturn aX0_has_17 rfl ⟨Nat.le_refl _, Nat.le_refl _⟩ (by first | exact Or.inl rfl | exact Or.inr rfl | exact b2i_01 | omega) ?_
      first
        | exact ⟨by rw [b2i_t (by omega)], rfl, rfl⟩
        | exact ⟨by rw [b2i_f (by omega)], rfl, rfl⟩
set_option maxHeartbeats 4000000 in
set_option maxRecDepth 100000 in
theorem l_X0_beginWith {μ0 : Mu} {n : Int} {P : Pst} (hB : BookS S b) (hp : ∀ μ : Mu, (∀ q : Nat, q ≠ b + 14 → q ≠ b + 15 → q ≠ b + 16 → μ q = μ0 q) → (∀ j : Int, 0 ≤ j → j < 6 → μ (b + 14) j = 0 ∧ μ (b + 15) j = 0 ∧ μ (b + 16) j = 999) → P none S μ) : ∀ (m : Nat) (i : Int) (μ : Mu), (0 ≤ i ∧ i ≤ 6) → 6 - i < m → (∀ q : Nat, q ≠ b + 14 → q ≠ b + 15 → q ≠ b + 16 → μ q = μ0 q) → (∀ j : Int, 0 ≤ j → j < i → μ (b + 14) j = 0 ∧ μ (b + 15) j = 0 ∧ μ (b + 16) j = 999) → V l G cX0_beginWith (yX0_beginWith, 3, none, 0, 0, 0) P (0, 0) S μ 12 [.ref b, vi n, vi i] [] := by
  intro m
  induction m with
  | zero => intro i μ h0 h1; omega
  | succ m ih =>
    intro i μ h0 h1 hq hj
    refine v_iload_n aX0_beginWith_12 rfl ?_
    refine v_bipush (by decide) aX0_beginWith_13 ?_
    refine v_icmp_ge 47 rfl aX0_beginWith_15 (by omega) (by omega) (fun c15 => ?_) (fun c15 => ?_)
    · --
      refine v_return aX0_beginWith_47 rfl ⟨Nat.le_refl _, Nat.le_refl _⟩ ?_
      exact hp _ hq (fun j j0 j1 => hj j j0 (by omega))
    · --
      refine v_aload_n aX0_beginWith_18 rfl ?_
      refine v_getr aX0_beginWith_19 fX0_16 hB.p rfl rfl ?_
      refine v_iload_n aX0_beginWith_22 rfl ?_
      refine v_iconst aX0_beginWith_23 ?_
      refine v_iast aX0_beginWith_24 hB.p_lifts (by omega) (by decide) ?_
      refine v_aload_n aX0_beginWith_25 rfl ?_
      refine v_getr aX0_beginWith_26 fX0_20 hB.p rfl rfl ?_
      refine v_iload_n aX0_beginWith_29 rfl ?_
      refine v_iconst aX0_beginWith_30 ?_
      refine v_iast aX0_beginWith_31 hB.p_least (by omega) (by decide) ?_
      refine v_aload_n aX0_beginWith_32 rfl ?_
      refine v_getr aX0_beginWith_33 fX0_23 hB.p rfl rfl ?_
      refine v_iload_n aX0_beginWith_36 rfl ?_
      refine v_sipush (by decide) aX0_beginWith_37 ?_
      refine v_iast aX0_beginWith_40 hB.p_greatest (by omega) (by decide) ?_
      refine v_iinc aX0_beginWith_41 rfl (by decide) rfl ?_
      refine v_goto 12 rfl aX0_beginWith_44 ?_
      refine ih (i + 1) _ (by omega) (by omega) (fun q e1 e2 e3 => ?_) (fun j j0 j1 => ?_)
      · rw [upd2_row e3, upd2_row e2, upd2_row e1]; exact hq q e1 e2 e3
      · by_cases e : j = i
        · subst e; simp [upd2_ap]
        · have := hj j j0 (by omega)
          simp [upd2_ap, e, this]
set_option maxHeartbeats 4000000 in
set_option maxRecDepth 100000 in
theorem c_X0_beginWith {n : Int} {t : BSt} (hB : BookS S b) (ht : BkAt μ b t) : Ct l G cX0_beginWith (yX0_beginWith, 3, none, 0, 0, 0) [.ref b, vi n] S μ (Rw S (fun μ' => BkAt μ' b (n, 0, t.2.2.1, t.2.2.2.1, (fun _ => 0), (fun _ => 0), (fun _ => 999), t.2.2.2.2.2.2.2.1, t.2.2.2.2.2.2.2.2) ∧ Out μ μ' b 19)) := by
  refine Ct.of (by decide) rfl (by simp [vi, Value.category]) (Nat.le_of_ble_eq_true rfl) ?_
  refine v_aload_n aX0_beginWith_0 rfl ?_
  refine v_iload_n aX0_beginWith_1 rfl ?_
  refine v_pi 6 rfl aX0_beginWith_2 fX0_36 nf0_6 ok0_6 hB.p rfl rfl ?_
  refine v_aload_n aX0_beginWith_5 rfl ?_
  refine v_iconst aX0_beginWith_6 ?_
  refine v_pi 7 rfl aX0_beginWith_7 fX0_40 nf0_7 ok0_7 hB.p rfl rfl ?_
  refine v_iconst aX0_beginWith_10 ?_
  refine v_istore_n aX0_beginWith_11 (by decide) rfl ?_
  refine l_X0_beginWith (μ0 := upd2 (upd2 μ b 6 n) b 7 0) hB (fun μ' h1 h2 => ⟨rfl, rfl, ?_, ?_⟩) 7 0 _ (by omega) (by omega) (fun _ _ _ _ => rfl) (fun j j0 j1 => by omega)
  · obtain ⟨t1, t2, t3, t4, t5, t6, t7, t8, t9⟩ := ht
    refine ⟨?_, ?_, ?_, fun i hi j j0 j5 => ?_, fun j j0 j6 => (h2 j j0 j6).1, fun j j0 j6 => (h2 j j0 j6).2.1, fun j j0 j6 => (h2 j j0 j6).2.2, ?_, ?_⟩
    · rw [h1 b (by omega) (by omega) (by omega)]; simp [upd2_ap]
    · rw [h1 b (by omega) (by omega) (by omega)]; simp [upd2_ap]
    · rw [h1 b (by omega) (by omega) (by omega)]; simp [upd2_ap, t3]
    · rw [h1 _ (by omega) (by omega) (by omega), upd2_row (by omega), upd2_row (by omega)]; exact t4 i hi j j0 j5
    · rw [h1 _ (by omega) (by omega) (by omega), upd2_row (by omega), upd2_row (by omega)]; exact t8
    · rw [h1 _ (by omega) (by omega) (by omega), upd2_row (by omega), upd2_row (by omega)]; exact t9
  · intro q hq
    rw [h1 _ (by omega) (by omega) (by omega), upd2_row (by omega), upd2_row (by omega)]
set_option maxHeartbeats 4000000 in
set_option maxRecDepth 100000 in
theorem c_X0_addSaying {s p h : Int} {K : Int → Int} (hB : BookS S b) (hc : 0 ≤ μ b 7 ∧ μ b 7 < 12) (hs : 0 ≤ s ∧ s < 6) (hp : 0 ≤ p ∧ p < 6) (hK : ∀ i : Nat, i < 12 → ∀ j : Int, 0 ≤ j → j < 5 → μ (b + 2 + i) j = K (5 * i + j)) : Ct l G cX0_addSaying (yX0_addSaying, 5, none, 0, 0, 0) [.ref b, vi s, vi p, vi h] S μ (Rw S (fun μ' => (∀ i : Nat, i < 12 → ∀ j : Int, 0 ≤ j → j < 5 → μ' (b + 2 + i) j = ladd K (μ (b + 14)) (μ b 7) s p h (5 * i + j)) ∧ μ' b = iup (μ b) 7 (μ b 7 + 1) ∧ ∀ q : Nat, q ≠ b → (q < b + 2 ∨ b + 14 ≤ q) → μ' q = μ q)) := by
  have hrow := hB.p_row (μ b 7).toNat (by omega)
  have hcc : (((μ b 7).toNat : Nat) : Int) = μ b 7 := by omega
  refine Ct.of (by decide) rfl (by simp [vi, Value.category]) (Nat.le_of_ble_eq_true rfl) ?_
  refine v_aload_n aX0_addSaying_0 rfl ?_
  refine v_gi 7 rfl aX0_addSaying_1 fX0_40 hB.p rfl rfl ?_
  refine v_bipush (by decide) aX0_addSaying_4 ?_
  refine v_icmp_lt 10 rfl aX0_addSaying_6 (by omega) (by omega) (fun c6 => ?_) (fun c6 => ?_)
  · --
    refine v_aload_n aX0_addSaying_10 rfl ?_
    refine v_getr aX0_addSaying_11 fX0_11 hB.p rfl rfl ?_
    refine v_aload_n aX0_addSaying_14 rfl ?_
    refine v_gi 7 rfl aX0_addSaying_15 fX0_40 hB.p rfl rfl ?_
    refine v_aaldR (kk := 102) (q := b + 2 + (μ b 7).toNat) rfl rfl aX0_addSaying_18 hB.p_sayings (by omega) (by decide) (by simp; omega) ?_
    refine v_astore aX0_addSaying_19 (by decide) rfl ?_
    refine v_aload aX0_addSaying_21 rfl ?_
    refine v_iconst aX0_addSaying_23 ?_
    refine v_iload_n aX0_addSaying_24 rfl ?_
    refine v_iast aX0_addSaying_25 hrow (by omega) (by decide) ?_
    refine v_aload aX0_addSaying_26 rfl ?_
    refine v_iconst aX0_addSaying_28 ?_
    refine v_iload_n aX0_addSaying_29 rfl ?_
    refine v_iast aX0_addSaying_30 hrow (by omega) (by decide) ?_
    refine v_aload aX0_addSaying_31 rfl ?_
    refine v_iconst aX0_addSaying_33 ?_
    refine v_iload_n aX0_addSaying_34 rfl ?_
    refine v_iast aX0_addSaying_35 hrow (by omega) (by decide) ?_
    refine v_aload aX0_addSaying_36 rfl ?_
    refine v_iconst aX0_addSaying_38 ?_
    refine v_aload_n aX0_addSaying_39 rfl ?_
    refine v_getr aX0_addSaying_40 fX0_16 hB.p rfl rfl ?_
    refine v_iload_n aX0_addSaying_43 rfl ?_
    refine v_iald aX0_addSaying_44 hB.p_lifts (by omega) (by decide) ?_
    rw [upd2_row (by omega), upd2_row (by omega), upd2_row (by omega)]
    refine v_iast aX0_addSaying_45 hrow (by omega) (by decide) ?_
    refine v_aload aX0_addSaying_46 rfl ?_
    refine v_iconst aX0_addSaying_48 ?_
    refine v_aload_n aX0_addSaying_49 rfl ?_
    refine v_getr aX0_addSaying_50 fX0_16 hB.p rfl rfl ?_
    refine v_iload_n aX0_addSaying_53 rfl ?_
    refine v_iald aX0_addSaying_54 hB.p_lifts (by omega) (by decide) ?_
    rw [upd2_row (by omega), upd2_row (by omega), upd2_row (by omega), upd2_row (by omega)]
    refine v_iast aX0_addSaying_55 hrow (by omega) (by decide) ?_
    refine v_aload_n aX0_addSaying_56 rfl ?_
    refine v_dup rfl aX0_addSaying_57 ?_
    refine v_gi 7 rfl aX0_addSaying_58 fX0_40 hB.p rfl rfl ?_
    rw [upd2_row (by omega), upd2_row (by omega), upd2_row (by omega), upd2_row (by omega), upd2_row (by omega)]
    refine v_iconst aX0_addSaying_61 ?_
    refine v_iadd aX0_addSaying_62 ?_
    refine v_pi 7 rfl aX0_addSaying_63 fX0_40 nf0_7 ok0_7 hB.p rfl rfl ?_
    refine v_return aX0_addSaying_66 rfl ⟨Nat.le_refl _, Nat.le_refl _⟩ ?_
    refine ⟨rfl, rfl, fun i hi j j0 j5 => ?_, ?_, fun q q1 q2 => ?_⟩
    · rw [upd2_row (by omega)]
      by_cases e : i = (μ b 7).toNat
      · subst e
        rw [hcc]
        unfold ladd
        have hj : j = 0 ∨ j = 1 ∨ j = 2 ∨ j = 3 ∨ j = 4 := by omega
        rcases hj with rfl | rfl | rfl | rfl | rfl <;> simp [upd2_ap] <;> omega
      · rw [upd2_row (by omega), upd2_row (by omega), upd2_row (by omega), upd2_row (by omega), upd2_row (by omega), hK i hi j j0 j5]
        unfold ladd
        rw [if_neg (by omega), if_neg (by omega), if_neg (by omega), if_neg (by omega), if_neg (by omega)]
    · funext z
      by_cases e : z = 7
      · subst e; simp [upd2_ap, iup]
      · have e9 : ∀ x : Nat, b ≠ b + 2 + x := fun x => by omega
        simp [upd2_ap, iup, e, e9]
    · rw [upd2_row q1, upd2_row (by omega), upd2_row (by omega), upd2_row (by omega), upd2_row (by omega), upd2_row (by omega)]
  · exact absurd c6 (by omega)
end BOOK
