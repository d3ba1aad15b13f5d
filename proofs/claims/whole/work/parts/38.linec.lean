/-! a line of known weights: the class -/
noncomputable def sp_leaves (t : BSt) (x : Int) : Int := if b2i (0 ≤ x ∧ Vd 10 t.1 x) = 1 then opl t.2.2.2.2.2.2.2.2 (dg 10 x t.1) t.1 else -2
theorem qd_r {b x : Int} (hb : 0 < b) (hx : 0 ≤ x) : ∀ j : Nat, 0 ≤ qd b x j ∧ qd b x j ≤ x
  | 0 => ⟨hx, Int.le_refl _⟩
  | j + 1 => by
    have h := qd_r hb hx j
    exact ⟨Int.ediv_nonneg h.1 (by omega), Int.le_trans (Int.ediv_le_self _ h.1) h.2⟩
def WY (T f : Int → Int) (i o way : Int) : Prop := (way = 0 ∧ ∀ k : Int, i ≤ k → k + 1 < o → T (f k) = T (f (k + 1))) ∨ (way = 1 ∧ (∀ k : Int, i ≤ k → k + 1 < o → T (f k) ≤ T (f (k + 1))) ∧ ∃ k : Int, i ≤ k ∧ k + 1 < o ∧ T (f k) < T (f (k + 1))) ∨ (way = -1 ∧ (∀ k : Int, i ≤ k → k + 1 < o → T (f (k + 1)) ≤ T (f k)) ∧ ∃ k : Int, i ≤ k ∧ k + 1 < o ∧ T (f (k + 1)) < T (f k))
theorem cmp3_r {a b : Int} : (cmp3 a b = -1 ∧ a < b) ∨ (cmp3 a b = 0 ∧ a = b) ∨ (cmp3 a b = 1 ∧ b < a) := by
  unfold cmp3
  rcases Int.lt_trichotomy a b with q | q | q
  · exact Or.inl ⟨if_pos q, q⟩
  · exact Or.inr (Or.inl ⟨by rw [if_neg (by omega), if_pos q], q⟩)
  · exact Or.inr (Or.inr ⟨by rw [if_neg (by omega), if_neg (by omega)], q⟩)
theorem WY_not {T f : Int → Int} {i o way : Int} (h : WY T f i (o + 1) way) : ¬ trn T f i o := by
  rintro ⟨h1, h2⟩
  rcases h with ⟨-, h⟩ | ⟨-, h, -⟩ | ⟨-, h, -⟩
  · exact h2 (fun k k0 k1 => Int.le_of_eq (h k k0 (by omega)))
  · exact h2 (fun k k0 k1 => h k k0 (by omega))
  · exact h1 (fun k k0 k1 => h k k0 (by omega))
theorem WY_brk {T f : Int → Int} {i o way : Int} (h : WY T f i o way) (hi : i < o) (hs : way * cmp3 (T (f o)) (T (f (o - 1))) < 0) (p : Int) (hp : o ≤ p) : trn T f i p := by
  have e1 : f o = f (o - 1 + 1) := by rw [show o - 1 + 1 = o by omega]
  rcases h with ⟨w, h⟩ | ⟨w, h, k, k0, k1, k2⟩ | ⟨w, h, k, k0, k1, k2⟩
  · rw [w] at hs; omega
  · rw [w] at hs
    refine ⟨fun q => ?_, fun q => ?_⟩
    · have := q k k0 (by omega); omega
    · have := q (o - 1) (by omega) (by omega)
      rw [← e1] at this
      rcases cmp3_r (a := T (f o)) (b := T (f (o - 1))) with ⟨z, z2⟩ | ⟨z, z2⟩ | ⟨z, z2⟩ <;> omega
  · rw [w] at hs
    refine ⟨fun q => ?_, fun q => ?_⟩
    · have := q (o - 1) (by omega) (by omega)
      rw [← e1] at this
      rcases cmp3_r (a := T (f o)) (b := T (f (o - 1))) with ⟨z, z2⟩ | ⟨z, z2⟩ | ⟨z, z2⟩ <;> omega
    · have := q k k0 (by omega); omega
theorem WY_step {T f : Int → Int} {i o way : Int} (h : WY T f i o way) (hi : i < o) (hs : ¬ way * cmp3 (T (f o)) (T (f (o - 1))) < 0) : WY T f i (o + 1) (if way = 0 then cmp3 (T (f o)) (T (f (o - 1))) else way) := by
  have e1 : f o = f (o - 1 + 1) := by rw [show o - 1 + 1 = o by omega]
  have c := cmp3_r (a := T (f o)) (b := T (f (o - 1)))
  have sp : ∀ k : Int, i ≤ k → k + 1 < o + 1 → (k + 1 < o ∨ k = o - 1) := fun k _ _ => by omega
  rcases h with ⟨w, h⟩ | ⟨w, h, k, k0, k1, k2⟩ | ⟨w, h, k, k0, k1, k2⟩
  · rw [if_pos w]
    rcases c with ⟨z, z2⟩ | ⟨z, z2⟩ | ⟨z, z2⟩
    · refine Or.inr (Or.inr ⟨z, fun k k0 k1 => ?_, o - 1, by omega, by omega, by rw [← e1]; exact z2⟩)
      rcases sp k k0 k1 with q | q
      · exact Int.le_of_eq (h k k0 q).symm
      · rw [q, ← e1]; omega
    · refine Or.inl ⟨z, fun k k0 k1 => ?_⟩
      rcases sp k k0 k1 with q | q
      · exact h k k0 q
      · rw [q, ← e1]; omega
    · refine Or.inr (Or.inl ⟨z, fun k k0 k1 => ?_, o - 1, by omega, by omega, by rw [← e1]; exact z2⟩)
      rcases sp k k0 k1 with q | q
      · exact Int.le_of_eq (h k k0 q)
      · rw [q, ← e1]; omega
  · rw [if_neg (by omega)]
    rw [w] at hs
    refine Or.inr (Or.inl ⟨w, fun j j0 j1 => ?_, k, k0, by omega, k2⟩)
    rcases sp j j0 j1 with q | q
    · exact h j j0 q
    · rw [q, ← e1]; omega
  · rw [if_neg (by omega)]
    rw [w] at hs
    refine Or.inr (Or.inr ⟨w, fun j j0 j1 => ?_, k, k0, by omega, k2⟩)
    rcases sp j j0 j1 with q | q
    · exact h j j0 q
    · rw [q, ← e1]; omega
section LNC
variable {l : Launch} {G : Glb} {S : Sh} {μ : Mu} {w : Nat} {n : Int}
set_option maxHeartbeats 4000000 in
set_option maxRecDepth 100000 in
theorem li_X6_readNumber {μ0 : Mu} {x : Int} (hW : WlnS S w) (hn : 2 ≤ n ∧ n ≤ 6) (hx : 0 ≤ x ∧ x < 2147483648) : ∀ (N : Nat) (p rest z : Int) (μ : Mu) (L : List Value), (-1 ≤ p ∧ p < n) → p + 1 < N → rest = qd 10 x (n - 1 - p).toNat → (0 ≤ z ∧ z.toNat < 2 ^ 6) → (∀ j : Int, 0 ≤ j → j < 6 → (tb z j ↔ ∃ k : Int, p < k ∧ k < n ∧ dg 10 x n k = j)) → (∀ k : Int, p < k → k < n → (0 ≤ dg 10 x n k ∧ dg 10 x n k < n) ∧ μ (w + 1) k = dg 10 x n k) → (∀ j k : Int, p < j → j < n → p < k → k < n → dg 10 x n j = dg 10 x n k → j = k) → μ w 1 = n → (∀ q : Nat, q ≠ w → q ≠ w + 1 → μ q = μ0 q) → V l G cX6_readNumber (yX6_readNumber, 7, (some FieldType.boolean), 0, 0, 0) (Re S (fun z μ' => z = b2i (0 ≤ x ∧ Vd 10 n x) ∧ (z = 1 → (∀ k : Int, 0 ≤ k → k < n → μ' (w + 1) k = dg 10 x n k) ∧ μ' w 1 = n) ∧ (∀ q : Nat, q ≠ w → q ≠ w + 1 → μ' q = μ0 q))) (0, 0) S μ 24 ([.ref w, vi x, vi n, vi rest, vi z, vi p] ++ L) [] := by
  intro N
  induction N with
  | zero => intros; omega
  | succ N ih =>
    intro p rest z μ L h0 h1 hrest hz hzb hd hi hlen hk
    have hrr := qd_r (b := 10) (by decide) hx.1 (n - 1 - p).toNat
    rw [← hrest] at hrr
    have hdg : rest % 10 = dg 10 x n p := by rw [hrest]; rfl
    have hdr : 0 ≤ dg 10 x n p ∧ dg 10 x n p < 10 := by omega
    have hor := fun q => or_rng (a := z) (b := iShl 1 (dg 10 x n p)) 6 (by decide) hz (shl1_rng 6 (by decide) q)
    have hb := b2i_r (p := tb z (dg 10 x n p))
    refine v_take 6 rfl ?_
    show V _ _ _ _ _ _ _ _ _ [.ref w, vi x, vi n, vi rest, vi z, vi p] _
    refine v_iload aX6_readNumber_24 rfl ?_
    refine v_if_lt 86 rfl aX6_readNumber_26 (by omega) (fun c26 => ?_) (fun c26 => ?_)
    · --
      refine v_iload_n aX6_readNumber_86 rfl ?_
      refine v_if_ne 94 rfl aX6_readNumber_87 (by omega) (fun c87 => ?_) (fun c87 => ?_)
      · --
        refine v_iconst aX6_readNumber_94 ?_
        refine v_zreturn aX6_readNumber_95 rfl ⟨Nat.le_refl _, Nat.le_refl _⟩ (by first | exact Or.inl rfl | exact Or.inr rfl | exact b2i_01 | omega) ?_
        obtain rfl : p = -1 := by omega
        refine ⟨0, rfl, rfl, (b2i_f (fun q => c87 ?_)).symm, fun q => absurd q (by decide), hk⟩
        rw [hrest, show (n - 1 - -1).toNat = n.toNat by omega]
        exact q.2.1
      · --
        refine v_iconst aX6_readNumber_90 ?_
        refine v_goto 95 rfl aX6_readNumber_91 ?_
        refine v_zreturn aX6_readNumber_95 rfl ⟨Nat.le_refl _, Nat.le_refl _⟩ (by first | exact Or.inl rfl | exact Or.inr rfl | exact b2i_01 | omega) ?_
        obtain rfl : p = -1 := by omega
        refine ⟨1, rfl, rfl, (b2i_t ⟨hx.1, ?_, fun k k0 k1 => (hd k (by omega) k1).1, fun j k j0 j1 k0 k1 e => hi j k (by omega) j1 (by omega) k1 e⟩).symm, fun _ => ⟨fun k k0 k1 => (hd k (by omega) k1).2, hlen⟩, hk⟩
        rw [show n.toNat = (n - 1 - -1).toNat by omega, ← hrest]
        exact c87
    · --
      refine v_iload_n aX6_readNumber_29 rfl ?_
      refine v_bipush (by decide) aX6_readNumber_30 ?_
      refine v_irem (by omega) (by omega) aX6_readNumber_32 ?_
      refine v_top hdg ?_
      refine v_istore aX6_readNumber_33 (by decide) rfl ?_
      refine v_iload aX6_readNumber_35 rfl ?_
      refine v_aload_n aX6_readNumber_37 rfl ?_
      refine v_gi 1 rfl aX6_readNumber_38 fX6_15 hW.p rfl rfl ?_
      rw [hlen]
      refine v_icmp_ge 55 rfl aX6_readNumber_41 (by omega) (by omega) (fun c41 => ?_) (fun c41 => ?_)
      · --
        refine v_iconst aX6_readNumber_55 ?_
        refine v_zreturn aX6_readNumber_56 rfl ⟨Nat.le_refl _, Nat.le_refl _⟩ (by first | exact Or.inl rfl | exact Or.inr rfl | exact b2i_01 | omega) ?_
        exact ⟨0, rfl, rfl, (b2i_f (fun q => by have := (q.2.2.1 p (by omega) (by omega)).2; omega)).symm, fun q => absurd q (by decide), hk⟩
      · --
        refine v_iload aX6_readNumber_44 rfl ?_
        refine v_iload aX6_readNumber_46 rfl ?_
        refine v_ishr aX6_readNumber_48 ?_
        refine v_iconst aX6_readNumber_49 ?_
        refine v_iand aX6_readNumber_50 ?_
        refine v_top (bit01 (by omega)) ?_
        refine v_iconst aX6_readNumber_51 ?_
        refine v_icmp_ne 57 rfl aX6_readNumber_52 (by omega) (by omega) (fun c52 => ?_) (fun c52 => ?_)
        · --
          refine v_aload_n aX6_readNumber_57 rfl ?_
          refine v_getr aX6_readNumber_58 fX6_9 hW.p rfl rfl ?_
          refine v_iload aX6_readNumber_61 rfl ?_
          refine v_iload aX6_readNumber_63 rfl ?_
          refine v_iast aX6_readNumber_65 hW.p_line (by omega) (by decide) ?_
          refine v_iload aX6_readNumber_66 rfl ?_
          refine v_iconst aX6_readNumber_68 ?_
          refine v_iload aX6_readNumber_69 rfl ?_
          refine v_ishl aX6_readNumber_71 ?_
          refine v_ior aX6_readNumber_72 ?_
          refine v_istore aX6_readNumber_73 (by decide) rfl ?_
          refine v_iload_n aX6_readNumber_75 rfl ?_
          refine v_bipush (by decide) aX6_readNumber_76 ?_
          refine v_idiv (by omega) (by omega) aX6_readNumber_78 ?_
          refine v_istore_n aX6_readNumber_79 (by decide) rfl ?_
          refine v_iinc aX6_readNumber_80 rfl (by decide) rfl ?_
          refine v_goto 24 rfl aX6_readNumber_83 ?_
          have hor := hor (by omega)
          refine ih (p + -1) _ _ _ [vi _] (by omega) (by omega) ?_ hor (fun j j0 j1 => ?_) (fun k k0 k1 => ?_) (fun j k j0 j1 k0 k1 e => ?_) ?_ (fun q q0 q1 => (upd2_row q1).trans (hk q q0 q1))
          · rw [show (n - 1 - (p + -1)).toNat = (n - 1 - p).toNat + 1 by omega, hrest]; rfl
          · rw [tb_or, hzb j j0 j1, tb_shl1 (by omega) (by omega)]
            constructor
            · rintro (⟨k, k0, k1, k2⟩ | q)
              · exact ⟨k, by omega, k1, k2⟩
              · exact ⟨p, by omega, by omega, q.symm⟩
            · rintro ⟨k, k0, k1, k2⟩
              by_cases q : k = p
              · right; rw [← k2, q]
              · exact Or.inl ⟨k, by omega, k1, k2⟩
          · rw [upd2_ap]
            by_cases q : k = p
            · rw [q, if_pos ⟨rfl, rfl⟩]; exact ⟨by omega, rfl⟩
            · rw [if_neg (by omega)]; exact hd k (by omega) k1
          · have ns : ∀ k : Int, p < k → k < n → dg 10 x n k ≠ dg 10 x n p := fun k k0 k1 q => c52 (b2i_t ((hzb _ (by omega) (by omega)).mpr ⟨k, k0, k1, q⟩))
            by_cases q : j = p
            · by_cases q2 : k = p
              · omega
              · rw [q] at e; exact absurd e.symm (ns k (by omega) k1)
            · by_cases q2 : k = p
              · rw [q2] at e; exact absurd e (ns j (by omega) j1)
              · exact hi j k (by omega) j1 (by omega) k1 e
          · rw [upd2_row (by omega)]; exact hlen
        · --
          refine v_iconst aX6_readNumber_55 ?_
          refine v_zreturn aX6_readNumber_56 rfl ⟨Nat.le_refl _, Nat.le_refl _⟩ (by first | exact Or.inl rfl | exact Or.inr rfl | exact b2i_01 | omega) ?_
          refine ⟨0, rfl, rfl, (b2i_f (fun q => ?_)).symm, fun q => absurd q (by decide), hk⟩
          obtain ⟨k, k0, k1, k2⟩ := (hzb _ (by omega) (by omega)).mp (b2i_1.mp c52)
          have := q.2.2.2 k p (by omega) k1 (by omega) (by omega) k2
          omega
set_option maxHeartbeats 4000000 in
set_option maxRecDepth 100000 in
theorem c_X6_readNumber {μ0 : Mu} {x : Int} (hW : WlnS S w) (hn : 2 ≤ n ∧ n ≤ 6) (hx : (-2147483648 ≤ x ∧ x < 2147483648)) : Ct l G cX6_readNumber (yX6_readNumber, 7, (some FieldType.boolean), 0, 0, 0) [.ref w, vi x, vi n] S μ0 (Re S (fun z μ' => z = b2i (0 ≤ x ∧ Vd 10 n x) ∧ (z = 1 → (∀ k : Int, 0 ≤ k → k < n → μ' (w + 1) k = dg 10 x n k) ∧ μ' w 1 = n) ∧ (∀ q : Nat, q ≠ w → q ≠ w + 1 → μ' q = μ0 q))) := by
  refine Ct.of (by decide) rfl (by simp [vi, Value.category]) (Nat.le_of_ble_eq_true rfl) ?_
  refine v_iload_n aX6_readNumber_0 rfl ?_
  refine v_if_ge 6 rfl aX6_readNumber_1 (by omega) (fun c1 => ?_) (fun c1 => ?_)
  · --
    refine v_aload_n aX6_readNumber_6 rfl ?_
    refine v_iload_n aX6_readNumber_7 rfl ?_
    refine v_pi 1 rfl aX6_readNumber_8 fX6_15 nf6_1 ok6_1 hW.p rfl rfl ?_
    refine v_iload_n aX6_readNumber_11 rfl ?_
    refine v_istore_n aX6_readNumber_12 (by decide) rfl ?_
    refine v_iconst aX6_readNumber_13 ?_
    refine v_istore aX6_readNumber_14 (by decide) rfl ?_
    refine v_aload_n aX6_readNumber_16 rfl ?_
    refine v_gi 1 rfl aX6_readNumber_17 fX6_15 hW.p rfl rfl ?_
    rw [upd2_same]
    refine v_iconst aX6_readNumber_20 ?_
    refine v_isub aX6_readNumber_21 ?_
    refine v_istore aX6_readNumber_22 (by decide) rfl ?_
    refine li_X6_readNumber hW hn (by omega) 8 (n - 1) x 0 _ [] (by omega) (by omega) ?_ (by decide) (fun j j0 j1 => ⟨fun q => absurd q tb_zero, fun ⟨k, k0, k1, _⟩ => by omega⟩) (fun k k0 k1 => by omega) (fun j k j0 j1 => by omega) upd2_same (fun q q0 q1 => upd2_row q0)
    rw [show (n - 1 - (n - 1)).toNat = 0 by omega]; rfl
  · --
    refine v_iconst aX6_readNumber_4 ?_
    refine v_zreturn aX6_readNumber_5 rfl ⟨Nat.le_refl _, Nat.le_refl _⟩ (by first | exact Or.inl rfl | exact Or.inr rfl | exact b2i_01 | omega) ?_
    exact ⟨0, rfl, rfl, (b2i_f (fun q => by have := q.1; omega)).symm, fun q => absurd q (by decide), fun q _ _ => rfl⟩
set_option maxHeartbeats 4000000 in
set_option maxRecDepth 100000 in
theorem li_X6_pairsLeftOpen {i C : Int} {q : Nat} (hW : WlnS S w) (hq : S.2 q = some (aI 6)) (hn : 2 ≤ n ∧ n ≤ 6) (hlen : μ w 1 = n) (hp : Pm n (μ (w + 1))) (hT : ∀ i : Int, 0 ≤ i → i < 6 → 0 ≤ μ q i ∧ μ q i ≤ 99) (hi : 0 ≤ i ∧ i < n) (hh : ∀ (z : Int) (L : List Value), z = C - sumN (fun o => b2i (i < o ∧ ¬ trn (μ q) (μ (w + 1)) i o)) n.toNat → V l G cX6_pairsLeftOpen (yX6_pairsLeftOpen, 7, (some FieldType.int), 1, 0, 0) (Ri S (opl (μ q) (μ (w + 1)) n) μ) (0, 0) S μ 100 ([.ref w, .ref q, vi z, vi i] ++ L) []) : ∀ (N : Nat) (o z way : Int) (L : List Value), (i + 1 ≤ o ∧ o ≤ n) → n - o < N → z = C - sumN (fun o => b2i (i < o ∧ ¬ trn (μ q) (μ (w + 1)) i o)) o.toNat → WY (μ q) (μ (w + 1)) i o way → V l G cX6_pairsLeftOpen (yX6_pairsLeftOpen, 7, (some FieldType.int), 1, 0, 0) (Ri S (opl (μ q) (μ (w + 1)) n) μ) (0, 0) S μ 32 ([.ref w, .ref q, vi z, vi i, vi way, vi o] ++ L) [] := by
  intro N
  induction N with
  | zero => intros; omega
  | succ N ih =>
    intro o z way L h0 h1 hz hw
    have hf := fun q => hp.1 o (by omega) q
    have hf1 := hp.1 (o - 1) (by omega) (by omega)
    have hT1 := hT _ hf1.1 (by omega)
    have hcr := cmp3_r (a := μ q (μ (w + 1) o)) (b := μ q (μ (w + 1) (o - 1)))
    have hwr : way = 0 ∨ way = 1 ∨ way = -1 := hw.elim (fun y => Or.inl y.1) (fun y => Or.inr (y.elim (fun y => Or.inl y.1) (fun y => Or.inr y.1)))
    have hmr : -1 ≤ way * cmp3 (μ q (μ (w + 1) o)) (μ q (μ (w + 1) (o - 1))) ∧ way * cmp3 (μ q (μ (w + 1) o)) (μ q (μ (w + 1) (o - 1))) ≤ 1 := by
      rcases hwr with y | y | y <;> rw [y] <;> omega
    have hqn := hz
    refine v_take 6 rfl ?_
    show V _ _ _ _ _ _ _ _ _ [.ref w, .ref q, vi z, vi i, vi way, vi o] _
    refine v_iload aX6_pairsLeftOpen_32 rfl ?_
    refine v_aload_n aX6_pairsLeftOpen_34 rfl ?_
    refine v_gi 1 rfl aX6_pairsLeftOpen_35 fX6_15 hW.p rfl rfl ?_
    rw [hlen]
    refine v_icmp_ge 100 rfl aX6_pairsLeftOpen_38 (by omega) (by omega) (fun c38 => ?_) (fun c38 => ?_)
    · --
      obtain rfl : o = n := by omega
      exact hh z _ hz
    · --
      have hf := hf (by omega)
      have hT0 := hT _ hf.1 (by omega)
      refine v_aload_n aX6_pairsLeftOpen_41 rfl ?_
      refine v_aload_n aX6_pairsLeftOpen_42 rfl ?_
      refine v_getr aX6_pairsLeftOpen_43 fX6_9 hW.p rfl rfl ?_
      refine v_iload aX6_pairsLeftOpen_46 rfl ?_
      refine v_iald aX6_pairsLeftOpen_48 hW.p_line (by omega) (by decide) ?_
      refine v_iald aX6_pairsLeftOpen_49 hq (by omega) (by decide) ?_
      refine v_aload_n aX6_pairsLeftOpen_50 rfl ?_
      refine v_aload_n aX6_pairsLeftOpen_51 rfl ?_
      refine v_getr aX6_pairsLeftOpen_52 fX6_9 hW.p rfl rfl ?_
      refine v_iload aX6_pairsLeftOpen_55 rfl ?_
      refine v_iconst aX6_pairsLeftOpen_57 ?_
      refine v_isub aX6_pairsLeftOpen_58 ?_
      refine v_iald aX6_pairsLeftOpen_59 hW.p_line (by omega) (by decide) ?_
      refine v_iald aX6_pairsLeftOpen_60 hq (by omega) (by decide) ?_
      refine v_cSi (c_J6_compare_7cf53 (by omega) (by omega)) aX6_pairsLeftOpen_61 mJ6_compare_7cf53 sJ6_compare_7cf53 lX6_19 rfl rfl (Nat.le_of_ble_eq_true rfl) ⟨Nat.le_of_ble_eq_true rfl, Nat.le_of_ble_eq_true rfl⟩ (Nat.le_of_ble_eq_true rfl) ?_
      refine v_istore aX6_pairsLeftOpen_64 (by decide) rfl ?_
      refine v_iload aX6_pairsLeftOpen_66 rfl ?_
      refine v_iload aX6_pairsLeftOpen_68 rfl ?_
      refine v_imul aX6_pairsLeftOpen_70 ?_
      refine v_if_ge 77 rfl aX6_pairsLeftOpen_71 (by omega) (fun c71 => ?_) (fun c71 => ?_)
      · --
        refine v_iload aX6_pairsLeftOpen_77 rfl ?_
        refine v_if_ne 87 rfl aX6_pairsLeftOpen_79 (by omega) (fun c79 => ?_) (fun c79 => ?_)
        · --
          refine v_iload aX6_pairsLeftOpen_87 rfl ?_
          refine v_istore aX6_pairsLeftOpen_89 (by decide) rfl ?_
          refine v_iinc aX6_pairsLeftOpen_91 rfl (by decide) rfl ?_
          refine v_iinc aX6_pairsLeftOpen_94 rfl (by decide) rfl ?_
          refine v_goto 32 rfl aX6_pairsLeftOpen_97 ?_
          have hs := WY_step hw (by omega) (by omega)
          rw [if_neg c79] at hs
          refine ih (o + 1) _ way [vi _] (by omega) (by omega) ?_ hs
          rw [sumN_s (by omega), hz, b2i_t ⟨by omega, WY_not hs⟩]
          omega
        · --
          refine v_iload aX6_pairsLeftOpen_82 rfl ?_
          refine v_goto 89 rfl aX6_pairsLeftOpen_84 ?_
          refine v_istore aX6_pairsLeftOpen_89 (by decide) rfl ?_
          refine v_iinc aX6_pairsLeftOpen_91 rfl (by decide) rfl ?_
          refine v_iinc aX6_pairsLeftOpen_94 rfl (by decide) rfl ?_
          refine v_goto 32 rfl aX6_pairsLeftOpen_97 ?_
          have hs := WY_step hw (by omega) (by omega)
          rw [if_pos c79] at hs
          refine ih (o + 1) _ _ [vi _] (by omega) (by omega) ?_ hs
          rw [sumN_s (by omega), hz, b2i_t ⟨by omega, WY_not hs⟩]
          omega
      · --
        refine v_goto 100 rfl aX6_pairsLeftOpen_74 ?_
        refine hh z _ ?_
        rw [hz, sumN_ge (a := o.toNat) (b := n.toNat) (by omega) (fun k k0 k1 => b2i_f (fun y => y.2 (WY_brk hw (by omega) (by omega) k (by omega))))]
set_option maxHeartbeats 4000000 in
set_option maxRecDepth 100000 in
theorem lo_X6_pairsLeftOpen {q : Nat} (hW : WlnS S w) (hq : S.2 q = some (aI 6)) (hn : 2 ≤ n ∧ n ≤ 6) (hlen : μ w 1 = n) (hp : Pm n (μ (w + 1))) (hT : ∀ i : Int, 0 ≤ i → i < 6 → 0 ≤ μ q i ∧ μ q i ≤ 99) : ∀ (N : Nat) (i z : Int) (L : List Value), (0 ≤ i ∧ i ≤ n) → n - i < N → z = n * (n - 1) / 2 - sumN (fun i => sumN (fun o => b2i (i < o ∧ ¬ trn (μ q) (μ (w + 1)) i o)) n.toNat) i.toNat → V l G cX6_pairsLeftOpen (yX6_pairsLeftOpen, 7, (some FieldType.int), 1, 0, 0) (Ri S (opl (μ q) (μ (w + 1)) n) μ) (0, 0) S μ 16 ([.ref w, .ref q, vi z, vi i] ++ L) [] := by
  intro N
  induction N with
  | zero => intros; omega
  | succ N ih =>
    intro i z L h0 h1 hz
    refine v_take 4 rfl ?_
    show V _ _ _ _ _ _ _ _ _ [.ref w, .ref q, vi z, vi i] _
    refine v_iload_n aX6_pairsLeftOpen_16 rfl ?_
    refine v_aload_n aX6_pairsLeftOpen_17 rfl ?_
    refine v_gi 1 rfl aX6_pairsLeftOpen_18 fX6_15 hW.p rfl rfl ?_
    rw [hlen]
    refine v_icmp_ge 106 rfl aX6_pairsLeftOpen_21 (by omega) (by omega) (fun c21 => ?_) (fun c21 => ?_)
    · --
      refine v_iload_n aX6_pairsLeftOpen_106 rfl ?_
      refine v_ireturn aX6_pairsLeftOpen_107 rfl ⟨Nat.le_refl _, Nat.le_refl _⟩ ?_
      obtain rfl : i = n := by omega
      exact ⟨by rw [hz, opl_tot (by omega)], rfl, rfl⟩
    · --
      refine v_iconst aX6_pairsLeftOpen_24 ?_
      refine v_istore aX6_pairsLeftOpen_25 (by decide) rfl ?_
      refine v_iload_n aX6_pairsLeftOpen_27 rfl ?_
      refine v_iconst aX6_pairsLeftOpen_28 ?_
      refine v_iadd aX6_pairsLeftOpen_29 ?_
      refine v_istore aX6_pairsLeftOpen_30 (by decide) rfl ?_
      refine li_X6_pairsLeftOpen (i := i) (C := z) hW hq hn hlen hp hT (by omega) (fun z2 L2 hz2 => ?_) 8 (i + 1) z 0 [] (by omega) (by omega) ?_ (Or.inl ⟨rfl, fun k k0 k1 => by omega⟩)
      · refine v_take 4 rfl ?_
        show V _ _ _ _ _ _ _ _ _ [.ref w, .ref q, vi z2, vi i] _
        refine v_iinc aX6_pairsLeftOpen_100 rfl (by decide) rfl ?_
        refine v_goto 16 rfl aX6_pairsLeftOpen_103 ?_
        refine ih (i + 1) z2 [] (by omega) (by omega) ?_
        rw [sumN_s h0.1, hz2, hz]
        omega
      · rw [sumN_0 _ (fun k k0 k1 => b2i_f (fun y => by omega))]; omega
set_option maxHeartbeats 4000000 in
set_option maxRecDepth 100000 in
theorem c_X6_pairsLeftOpen {q : Nat} (hW : WlnS S w) (hq : S.2 q = some (aI 6)) (hn : 2 ≤ n ∧ n ≤ 6) (hlen : μ w 1 = n) (hp : Pm n (μ (w + 1))) (hT : ∀ i : Int, 0 ≤ i → i < 6 → 0 ≤ μ q i ∧ μ q i ≤ 99) : Ct l G cX6_pairsLeftOpen (yX6_pairsLeftOpen, 7, (some FieldType.int), 1, 0, 0) [.ref w, .ref q] S μ (Ri S (opl (μ q) (μ (w + 1)) n) μ) := by
  have hmul : 0 ≤ n * (n - 1) ∧ n * (n - 1) ≤ 30 := by
    have : n = 2 ∨ n = 3 ∨ n = 4 ∨ n = 5 ∨ n = 6 := by omega
    rcases this with y | y | y | y | y <;> subst y <;> decide
  refine Ct.of (by decide) rfl (by simp [vi, Value.category]) (Nat.le_of_ble_eq_true rfl) ?_
  refine v_aload_n aX6_pairsLeftOpen_0 rfl ?_
  refine v_gi 1 rfl aX6_pairsLeftOpen_1 fX6_15 hW.p rfl rfl ?_
  rw [hlen]
  refine v_aload_n aX6_pairsLeftOpen_4 rfl ?_
  refine v_gi 1 rfl aX6_pairsLeftOpen_5 fX6_15 hW.p rfl rfl ?_
  rw [hlen]
  refine v_iconst aX6_pairsLeftOpen_8 ?_
  refine v_isub aX6_pairsLeftOpen_9 ?_
  refine v_imul aX6_pairsLeftOpen_10 ?_
  refine v_iconst aX6_pairsLeftOpen_11 ?_
  refine v_idiv (by omega) (by omega) aX6_pairsLeftOpen_12 ?_
  refine v_istore_n aX6_pairsLeftOpen_13 (by decide) rfl ?_
  refine v_iconst aX6_pairsLeftOpen_14 ?_
  refine v_istore_n aX6_pairsLeftOpen_15 (by decide) rfl ?_
  exact lo_X6_pairsLeftOpen hW hq hn hlen hp hT 8 0 _ [] (by omega) (by omega) (Int.sub_zero _).symm
end LNC
section LNL
variable {l : Launch} {G : Glb} {S : Sh} {μ : Mu} {x : Nat} {im pl : Nat → Option Nat} {t : BSt} {g : Int → Int} {n B : Int}
set_option maxHeartbeats 4000000 in
set_option maxRecDepth 100000 in
theorem c_X7_leaves {a : Int} (hX : LsS S x im pl) (h : LsAt μ x t g n) (hok : StOk t B) (ha : (-2147483648 ≤ a ∧ a < 2147483648)) : Ct l G cX7_leaves (yX7_leaves, 2, (some FieldType.int), 2, 0, 0) [.ref x, vi a] S μ (Re S (fun z μ' => z = sp_leaves t a ∧ LsAt μ' x t g n ∧ Out μ μ' x 33)) := by
  obtain ⟨o1, o2, o3, o4, o5⟩ := id hok
  have f6 : μ (x + 3) 6 = t.1 := h.1.1
  refine Ct.of (by decide) rfl (by simp [vi, Value.category]) (Nat.le_of_ble_eq_true rfl) ?_
  refine v_aload_n aX7_leaves_0 rfl ?_
  refine v_getr aX7_leaves_1 fX7_51 hX.p rfl rfl ?_
  refine v_iload_n aX7_leaves_4 rfl ?_
  refine v_aload_n aX7_leaves_5 rfl ?_
  refine v_getr aX7_leaves_6 fX7_19 hX.p rfl rfl ?_
  refine v_gi 6 rfl aX7_leaves_9 fX7_61 hX.book.p rfl rfl ?_
  rw [f6]
  refine v_cVe (c_X6_readNumber hX.weighedLine (n := t.1) (by omega) ha) aX7_leaves_12 mX6_readNumber vX6_readNumber lX7_214 hX.weighedLine.p rfl rfl rfl rfl rfl (Nat.le_of_ble_eq_true rfl) ⟨Nat.le_of_ble_eq_true rfl, Nat.le_of_ble_eq_true rfl⟩ (Nat.le_of_ble_eq_true rfl) (fun z μ' ⟨r1, r2, r3⟩ => ?_)
  have hL : LsAt μ' x t g n := h.kp (fun q q0 q1 => r3 q (by omega) (by omega))
  have hO : Out μ μ' x 33 := fun q hq => r3 q (by omega) (by omega)
  have hzr := b2i_01 (p := 0 ≤ a ∧ Vd 10 t.1 a)
  rw [← r1] at hzr
  refine v_if_ne 21 rfl aX7_leaves_15 (by omega) (fun c15 => ?_) (fun c15 => ?_)
  · --
    have r2 := r2 (by omega)
    have hv := b2i_1.mp (r1.symm.trans (show z = 1 by omega))
    have hpm : Pm t.1 (μ' (x + 30 + 1)) := hv.2.2.c r2.1
    have hTT : ∀ i : Int, 0 ≤ i → i < 6 → 0 ≤ μ' (x + 3 + 18) i ∧ μ' (x + 3 + 18) i ≤ 99 := fun i i0 i1 => by rw [hL.1.2.2.2.2.2.2.2.2 i i0 i1]; exact (o5 i i0 i1).2.2.2
    refine v_aload_n aX7_leaves_21 rfl ?_
    refine v_getr aX7_leaves_22 fX7_51 hX.p rfl rfl ?_
    refine v_aload_n aX7_leaves_25 rfl ?_
    refine v_getr aX7_leaves_26 fX7_19 hX.p rfl rfl ?_
    refine v_getr aX7_leaves_29 fX7_211 hX.book.p rfl rfl ?_
    refine v_cVi (c_X6_pairsLeftOpen hX.weighedLine hX.book.p_weights (n := t.1) (by omega) r2.2 hpm hTT) aX7_leaves_32 mX6_pairsLeftOpen vX6_pairsLeftOpen lX7_217 hX.weighedLine.p rfl rfl rfl rfl rfl (Nat.le_of_ble_eq_true rfl) ⟨Nat.le_of_ble_eq_true rfl, Nat.le_of_ble_eq_true rfl⟩ (Nat.le_of_ble_eq_true rfl) ?_
    refine v_ireturn aX7_leaves_35 rfl ⟨Nat.le_refl _, Nat.le_refl _⟩ ?_
    refine ⟨_, rfl, rfl, ?_, hL, hO⟩
    unfold sp_leaves
    rw [if_pos (by omega)]
    refine (opl_c (by omega) r2.1 (fun k k0 k1 => ?_)).symm
    have := hv.2.2.1 k k0 k1
    rw [r2.1 k k0 k1]
    exact hL.1.2.2.2.2.2.2.2.2 _ (by omega) (by omega)
  · --
    refine v_bipush (by decide) aX7_leaves_18 ?_
    refine v_ireturn aX7_leaves_20 rfl ⟨Nat.le_refl _, Nat.le_refl _⟩ ?_
    exact ⟨_, rfl, rfl, by unfold sp_leaves; rw [if_neg (by omega)], hL, hO⟩
end LNL
