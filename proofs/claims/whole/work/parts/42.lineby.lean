/-! lineBy: the class -/
def num10 (f : Int → Int) : Nat → Int
  | 0 => 0
  | k + 1 => num10 f k * 10 + f (k : Int)
theorem num10_s {f : Int → Int} {i : Int} (h : 0 ≤ i) : num10 f (i + 1).toNat = num10 f i.toNat * 10 + f i := by
  rw [show (i + 1).toNat = i.toNat + 1 by omega]
  show num10 f i.toNat * 10 + f (i.toNat : Int) = _
  rw [show ((i.toNat : Nat) : Int) = i by omega]
theorem num10_c {f g : Int → Int} : ∀ n : Nat, (∀ k : Int, 0 ≤ k → k < n → f k = g k) → num10 f n = num10 g n
  | 0, _ => rfl
  | n + 1, h => by
    show num10 f n * 10 + f n = num10 g n * 10 + g n
    rw [num10_c n (fun k h0 h1 => h k h0 (by omega)), h n (by omega) (by omega)]
/-- the first best of the first i + 1 orders: which, and how many pairs it leaves open -/
noncomputable def exN (wh : Int) (T : Int → Int) (n : Int) : Nat → Nat × Int
  | 0 => (0, opl T (lnI n 0) n)
  | i + 1 => if (if wh = 1 then (exN wh T n i).2 < opl T (lnI n (i + 1)) n else opl T (lnI n (i + 1)) n < (exN wh T n i).2) then (i + 1, opl T (lnI n (i + 1)) n) else exN wh T n i
noncomputable def sp_lineBy (t : BSt) (wh wa : Int) : Int := if (0 ≤ wh ∧ wh ≤ 1) ∧ 0 ≤ wa ∧ wa ≤ 1 then (if wa = 0 then num10 (lnI t.1 (exN wh t.2.2.2.2.2.2.2.2 t.1 (fcI t.1 - 1)).1) t.1.toNat else (exN wh t.2.2.2.2.2.2.2.2 t.1 (fcI t.1 - 1)).2) else -2
theorem opl_r {T f : Int → Int} {n : Int} (hn : 0 ≤ n ∧ n ≤ 6) : 0 ≤ opl T f n ∧ opl T f n ≤ 36 := by
  have h1 : ∀ i : Int, 0 ≤ sumN (fun o => b2i (i < o ∧ trn T f i o)) n.toNat ∧ sumN (fun o => b2i (i < o ∧ trn T f i o)) n.toNat ≤ 6 := fun i => by
    have := cntP_nn (p := fun o => i < o ∧ trn T f i o) n.toNat
    unfold cntP at this
    dsimp only at this
    omega
  have h2 := sumN_le (f := fun _ => 0) (g := fun i => sumN (fun o => b2i (i < o ∧ trn T f i o)) n.toNat) n.toNat (fun i _ _ => (h1 i).1)
  have h3 := sumN_le (f := fun i => sumN (fun o => b2i (i < o ∧ trn T f i o)) n.toNat) (g := fun _ => 6) n.toNat (fun i _ _ => (h1 i).2)
  have h4 : ∀ m : Nat, sumN (fun _ => 6) m = 6 * m ∧ sumN (fun _ => 0) m = 0 := fun m => by
    induction m with
    | zero => exact ⟨rfl, rfl⟩
    | succ m ih => exact ⟨by show sumN (fun _ => 6) m + 6 = _; rw [ih.1]; omega, by show sumN (fun _ => 0) m + 0 = 0; rw [ih.2]; rfl⟩
  rw [(h4 _).2] at h2
  rw [(h4 _).1] at h3
  unfold opl
  omega
theorem exN_r {wh : Int} {T : Int → Int} {n : Int} (hn : 0 ≤ n ∧ n ≤ 6) : ∀ i : Nat, (exN wh T n i).1 ≤ i ∧ 0 ≤ (exN wh T n i).2 ∧ (exN wh T n i).2 ≤ 36
  | 0 => ⟨Nat.le_refl _, opl_r hn⟩
  | i + 1 => by
    have h := exN_r (wh := wh) (T := T) hn i
    unfold exN
    by_cases q : (if wh = 1 then (exN wh T n i).2 < opl T (lnI n (i + 1)) n else opl T (lnI n (i + 1)) n < (exN wh T n i).2)
    · rw [if_pos q]; exact ⟨Nat.le_refl _, opl_r hn⟩
    · rw [if_neg q]; exact ⟨by omega, h.2⟩
section LBC
variable {l : Launch} {G : Glb} {S : Sh} {μ : Mu} {w : Nat} {n : Int}
set_option maxHeartbeats 4000000 in
set_option maxRecDepth 100000 in
theorem c_X6_swap {p q : Int} (hW : WlnS S w) (hp : 0 ≤ p ∧ p < 6) (hq : 0 ≤ q ∧ q < 6) : Ct l G cX6_swap (yX6_swap, 4, none, 0, 0, 0) [.ref w, vi p, vi q] S μ (Rv S (row μ (w + 1) (iup (iup (μ (w + 1)) p (μ (w + 1) q)) q (μ (w + 1) p)))) := by
  refine Ct.of (by decide) rfl (by simp [vi, Value.category]) (Nat.le_of_ble_eq_true rfl) ?_
  refine v_aload_n aX6_swap_0 rfl ?_
  refine v_getr aX6_swap_1 fX6_9 hW.p rfl rfl ?_
  refine v_iload_n aX6_swap_4 rfl ?_
  refine v_iald aX6_swap_5 hW.p_line (by omega) (by decide) ?_
  refine v_istore_n aX6_swap_6 (by decide) rfl ?_
  refine v_aload_n aX6_swap_7 rfl ?_
  refine v_getr aX6_swap_8 fX6_9 hW.p rfl rfl ?_
  refine v_iload_n aX6_swap_11 rfl ?_
  refine v_aload_n aX6_swap_12 rfl ?_
  refine v_getr aX6_swap_13 fX6_9 hW.p rfl rfl ?_
  refine v_iload_n aX6_swap_16 rfl ?_
  refine v_iald aX6_swap_17 hW.p_line (by omega) (by decide) ?_
  refine v_iast aX6_swap_18 hW.p_line (by omega) (by decide) ?_
  refine v_aload_n aX6_swap_19 rfl ?_
  refine v_getr aX6_swap_20 fX6_9 hW.p rfl rfl ?_
  refine v_iload_n aX6_swap_23 rfl ?_
  refine v_iload_n aX6_swap_24 rfl ?_
  refine v_iast aX6_swap_25 hW.p_line (by omega) (by decide) ?_
  refine v_return aX6_swap_26 rfl ⟨Nat.le_refl _, Nat.le_refl _⟩ ?_
  exact ⟨rfl, rfl, by rw [upd2_iup, upd2_iup, row_same, row_row]⟩
set_option maxHeartbeats 4000000 in
set_option maxRecDepth 100000 in
theorem li_X6_number (hW : WlnS S w) (hn : 0 ≤ n ∧ n ≤ 6) (hlen : μ w 1 = n) : ∀ (N : Nat) (i z : Int), (0 ≤ i ∧ i ≤ n) → n - i < N → z = num10 (μ (w + 1)) i.toNat → V l G cX6_number (yX6_number, 3, (some FieldType.int), 0, 0, 0) (Ri S (num10 (μ (w + 1)) n.toNat) μ) (0, 0) S μ 4 [.ref w, vi z, vi i] [] := by
  intro N
  induction N with
  | zero => intros; omega
  | succ N ih =>
    intro i z h0 h1 hz
    refine v_iload_n aX6_number_4 rfl ?_
    refine v_aload_n aX6_number_5 rfl ?_
    refine v_gi 1 rfl aX6_number_6 fX6_15 hW.p rfl rfl ?_
    rw [hlen]
    refine v_icmp_ge 30 rfl aX6_number_9 (by omega) (by omega) (fun c9 => ?_) (fun c9 => ?_)
    · --
      refine v_iload_n aX6_number_30 rfl ?_
      refine v_ireturn aX6_number_31 rfl ⟨Nat.le_refl _, Nat.le_refl _⟩ ?_
      obtain rfl : i = n := by omega
      exact ⟨by rw [hz], rfl, rfl⟩
    · --
      refine v_iload_n aX6_number_12 rfl ?_
      refine v_bipush (by decide) aX6_number_13 ?_
      refine v_imul aX6_number_15 ?_
      refine v_aload_n aX6_number_16 rfl ?_
      refine v_getr aX6_number_17 fX6_9 hW.p rfl rfl ?_
      refine v_iload_n aX6_number_20 rfl ?_
      refine v_iald aX6_number_21 hW.p_line (by omega) (by decide) ?_
      refine v_iadd aX6_number_22 ?_
      refine v_istore_n aX6_number_23 (by decide) rfl ?_
      refine v_iinc aX6_number_24 rfl (by decide) rfl ?_
      refine v_goto 4 rfl aX6_number_27 ?_
      exact ih (i + 1) _ (by omega) (by omega) (by rw [num10_s h0.1, hz])
set_option maxHeartbeats 4000000 in
set_option maxRecDepth 100000 in
theorem c_X6_number (hW : WlnS S w) (hn : 0 ≤ n ∧ n ≤ 6) (hlen : μ w 1 = n) : Ct l G cX6_number (yX6_number, 3, (some FieldType.int), 0, 0, 0) [.ref w] S μ (Ri S (num10 (μ (w + 1)) n.toNat) μ) := by
  refine Ct.of (by decide) rfl (by simp [vi, Value.category]) (Nat.le_of_ble_eq_true rfl) ?_
  refine v_iconst aX6_number_0 ?_
  refine v_istore_n aX6_number_1 (by decide) rfl ?_
  refine v_iconst aX6_number_2 ?_
  refine v_istore_n aX6_number_3 (by decide) rfl ?_
  exact li_X6_number hW hn hlen 7 0 0 (by omega) (by omega) rfl
set_option maxHeartbeats 4000000 in
set_option maxRecDepth 100000 in
theorem l3_X6_advance {p q : Int} (hW : WlnS S w) (hn : 2 ≤ n ∧ n ≤ 6) (hlen : μ w 1 = n) (hp : Pm n (μ (w + 1))) (p0 : 0 ≤ p) (p1 : p + 1 < n) (p2 : (μ (w + 1)) p < (μ (w + 1)) (p + 1)) (p3 : ∀ k : Int, p < k → k + 1 < n → (μ (w + 1)) (k + 1) < (μ (w + 1)) k) (q0 : p < q) (q1 : q < n) (q2 : (μ (w + 1)) p < (μ (w + 1)) q) (q3 : ∀ k : Int, q < k → k < n → (μ (w + 1)) k < (μ (w + 1)) p) : ∀ (N : Nat) (a c : Int) (h : Int → Int), (p + 1 ≤ a ∧ c < n ∧ a + c = n + p ∧ a ≤ c + 1) → c - a < N → (∀ k : Int, 0 ≤ k → k < n → h k = if (p < k ∧ k < a) ∨ c < k then (iup (iup (μ (w + 1)) p ((μ (w + 1)) q)) q ((μ (w + 1)) p)) (n + p - k) else (iup (iup (μ (w + 1)) p ((μ (w + 1)) q)) q ((μ (w + 1)) p)) k) → V l G cX6_advance (yX6_advance, 5, (some FieldType.boolean), 1, 0, 0) (Re S (fun z μ' => (z = 0 ∧ (∀ p : Int, 0 ≤ p → p + 1 < n → ¬ (μ (w + 1)) p < (μ (w + 1)) (p + 1)) ∧ μ' = μ) ∨ (z = 1 ∧ ∃ p q : Int, 0 ≤ p ∧ p + 1 < n ∧ (μ (w + 1)) p < (μ (w + 1)) (p + 1) ∧ (∀ k : Int, p < k → k + 1 < n → (μ (w + 1)) (k + 1) < (μ (w + 1)) k) ∧ p < q ∧ q < n ∧ (μ (w + 1)) p < (μ (w + 1)) q ∧ (∀ k : Int, q < k → k < n → (μ (w + 1)) k < (μ (w + 1)) p) ∧ (∀ k : Int, 0 ≤ k → k < n → μ' (w + 1) k = nxI (μ (w + 1)) n p q k) ∧ ∀ r : Nat, r ≠ w + 1 → μ' r = μ r))) (0, 0) S (row μ (w + 1) h) 91 [.ref w, vi p, vi q, vi a, vi c] [] := by
  intro N
  induction N with
  | zero =>
    intro a c h h0 h1 hh
    refine v_iload_n aX6_advance_91 rfl ?_
    refine v_iload aX6_advance_92 rfl ?_
    refine v_icmp_ge 113 rfl aX6_advance_94 (by omega) (by omega) (fun c94 => ?_) (fun c94 => ?_)
    · --
      refine v_iconst aX6_advance_113 ?_
      refine v_zreturn aX6_advance_114 rfl ⟨Nat.le_refl _, Nat.le_refl _⟩ (by first | exact Or.inl rfl | exact Or.inr rfl | exact b2i_01 | omega) ?_
      refine ⟨1, rfl, rfl, Or.inr ⟨rfl, p, q, p0, p1, p2, p3, q0, q1, q2, q3, fun k k0 k1 => ?_, fun r hr => row_ne hr⟩⟩
      rw [row_same, hh k k0 k1]
      unfold nxI
      by_cases e1 : k < p
      · rw [if_neg (by omega), if_pos e1, iup_ne (by omega), iup_ne (by omega)]
      · rw [if_neg e1]
        by_cases e2 : k = p
        · rw [if_neg (by omega), if_pos e2, e2, iup_ne (by omega), iup_same]
        · rw [if_neg e2]
          have e4 : (if (p < k ∧ k < a) ∨ c < k then (iup (iup (μ (w + 1)) p (μ (w + 1) q)) q (μ (w + 1) p)) (n + p - k) else (iup (iup (μ (w + 1)) p (μ (w + 1) q)) q (μ (w + 1) p)) k) = (iup (iup (μ (w + 1)) p (μ (w + 1) q)) q (μ (w + 1) p)) (n + p - k) := by
            by_cases e5 : (p < k ∧ k < a) ∨ c < k
            · rw [if_pos e5]
            · rw [if_neg e5, show n + p - k = k by omega]
          rw [e4]
          by_cases e3 : n + p - k = q
          · rw [if_pos e3, e3, iup_same]
          · rw [if_neg e3, iup_ne e3, iup_ne (by omega)]
    · omega
  | succ N ih =>
    intro a c h h0 h1 hh
    refine v_iload_n aX6_advance_91 rfl ?_
    refine v_iload aX6_advance_92 rfl ?_
    refine v_icmp_ge 113 rfl aX6_advance_94 (by omega) (by omega) (fun c94 => ?_) (fun c94 => ?_)
    · --
      refine v_iconst aX6_advance_113 ?_
      refine v_zreturn aX6_advance_114 rfl ⟨Nat.le_refl _, Nat.le_refl _⟩ (by first | exact Or.inl rfl | exact Or.inr rfl | exact b2i_01 | omega) ?_
      refine ⟨1, rfl, rfl, Or.inr ⟨rfl, p, q, p0, p1, p2, p3, q0, q1, q2, q3, fun k k0 k1 => ?_, fun r hr => row_ne hr⟩⟩
      rw [row_same, hh k k0 k1]
      unfold nxI
      by_cases e1 : k < p
      · rw [if_neg (by omega), if_pos e1, iup_ne (by omega), iup_ne (by omega)]
      · rw [if_neg e1]
        by_cases e2 : k = p
        · rw [if_neg (by omega), if_pos e2, e2, iup_ne (by omega), iup_same]
        · rw [if_neg e2]
          have e4 : (if (p < k ∧ k < a) ∨ c < k then (iup (iup (μ (w + 1)) p (μ (w + 1) q)) q (μ (w + 1) p)) (n + p - k) else (iup (iup (μ (w + 1)) p (μ (w + 1) q)) q (μ (w + 1) p)) k) = (iup (iup (μ (w + 1)) p (μ (w + 1) q)) q (μ (w + 1) p)) (n + p - k) := by
            by_cases e5 : (p < k ∧ k < a) ∨ c < k
            · rw [if_pos e5]
            · rw [if_neg e5, show n + p - k = k by omega]
          rw [e4]
          by_cases e3 : n + p - k = q
          · rw [if_pos e3, e3, iup_same]
          · rw [if_neg e3, iup_ne e3, iup_ne (by omega)]
    · --
      refine v_aload_n aX6_advance_97 rfl ?_
      refine v_iload_n aX6_advance_98 rfl ?_
      refine v_iload aX6_advance_99 rfl ?_
      refine v_cVv (c_X6_swap hW (by omega) (by omega)) aX6_advance_101 mX6_swap vX6_swap lX6_43 hW.p rfl rfl rfl rfl rfl (Nat.le_of_ble_eq_true rfl) ⟨Nat.le_of_ble_eq_true rfl, Nat.le_of_ble_eq_true rfl⟩ (Nat.le_of_ble_eq_true rfl) ?_
      refine v_iinc aX6_advance_104 rfl (by decide) rfl ?_
      refine v_iinc aX6_advance_107 rfl (by decide) rfl ?_
      refine v_goto 91 rfl aX6_advance_110 ?_
      rw [row_same, row_row]
      refine ih (a + 1) (c + -1) _ (by omega) (by omega) (fun k k0 k1 => ?_)
      by_cases e1 : k = c
      · rw [e1, iup_same, hh a (by omega) (by omega), if_neg (by omega), if_pos (by omega), show n + p - c = a by omega]
      · rw [iup_ne e1]
        by_cases e2 : k = a
        · rw [e2, iup_same, hh c (by omega) (by omega), if_neg (by omega), if_pos (by omega), show n + p - a = c by omega]
        · rw [iup_ne e2, hh k k0 k1]
          by_cases e3 : (p < k ∧ k < a) ∨ c < k
          · rw [if_pos e3, if_pos (by omega)]
          · rw [if_neg e3, if_neg (by omega)]
set_option maxHeartbeats 4000000 in
set_option maxRecDepth 100000 in
theorem l2_X6_advance {p : Int} (hW : WlnS S w) (hn : 2 ≤ n ∧ n ≤ 6) (hlen : μ w 1 = n) (hp : Pm n (μ (w + 1))) (p0 : 0 ≤ p) (p1 : p + 1 < n) (p2 : (μ (w + 1)) p < (μ (w + 1)) (p + 1)) (p3 : ∀ k : Int, p < k → k + 1 < n → (μ (w + 1)) (k + 1) < (μ (w + 1)) k) : ∀ (N : Nat) (q : Int), (p < q ∧ q < n) → q - p < N → (∀ k : Int, q < k → k < n → (μ (w + 1)) k < (μ (w + 1)) p) → V l G cX6_advance (yX6_advance, 5, (some FieldType.boolean), 1, 0, 0) (Re S (fun z μ' => (z = 0 ∧ (∀ p : Int, 0 ≤ p → p + 1 < n → ¬ (μ (w + 1)) p < (μ (w + 1)) (p + 1)) ∧ μ' = μ) ∨ (z = 1 ∧ ∃ p q : Int, 0 ≤ p ∧ p + 1 < n ∧ (μ (w + 1)) p < (μ (w + 1)) (p + 1) ∧ (∀ k : Int, p < k → k + 1 < n → (μ (w + 1)) (k + 1) < (μ (w + 1)) k) ∧ p < q ∧ q < n ∧ (μ (w + 1)) p < (μ (w + 1)) q ∧ (∀ k : Int, q < k → k < n → (μ (w + 1)) k < (μ (w + 1)) p) ∧ (∀ k : Int, 0 ≤ k → k < n → μ' (w + 1) k = nxI (μ (w + 1)) n p q k) ∧ ∀ r : Nat, r ≠ w + 1 → μ' r = μ r))) (0, 0) S μ 47 [.ref w, vi p, vi q] [] := by
  intro N
  induction N with
  | zero => intros; omega
  | succ N ih =>
    intro q h0 h1 h2
    have hq := hp.1 q (by omega) (by omega)
    have hpp := hp.1 p (by omega) (by omega)
    refine v_iload_n aX6_advance_47 rfl ?_
    refine v_iload_n aX6_advance_48 rfl ?_
    refine v_icmp_le 73 rfl aX6_advance_49 (by omega) (by omega) (fun c49 => ?_) (fun c49 => ?_)
    · omega
    · --
      refine v_aload_n aX6_advance_52 rfl ?_
      refine v_getr aX6_advance_53 fX6_9 hW.p rfl rfl ?_
      refine v_iload_n aX6_advance_56 rfl ?_
      refine v_iald aX6_advance_57 hW.p_line (by omega) (by decide) ?_
      refine v_aload_n aX6_advance_58 rfl ?_
      refine v_getr aX6_advance_59 fX6_9 hW.p rfl rfl ?_
      refine v_iload_n aX6_advance_62 rfl ?_
      refine v_iald aX6_advance_63 hW.p_line (by omega) (by decide) ?_
      refine v_icmp_ge 73 rfl aX6_advance_64 (by omega) (by omega) (fun c64 => ?_) (fun c64 => ?_)
      · --
        refine v_aload_n aX6_advance_73 rfl ?_
        refine v_iload_n aX6_advance_74 rfl ?_
        refine v_iload_n aX6_advance_75 rfl ?_
        refine v_cVv (c_X6_swap hW (by omega) (by omega)) aX6_advance_76 mX6_swap vX6_swap lX6_43 hW.p rfl rfl rfl rfl rfl (Nat.le_of_ble_eq_true rfl) ⟨Nat.le_of_ble_eq_true rfl, Nat.le_of_ble_eq_true rfl⟩ (Nat.le_of_ble_eq_true rfl) ?_
        refine v_iload_n aX6_advance_79 rfl ?_
        refine v_iconst aX6_advance_80 ?_
        refine v_iadd aX6_advance_81 ?_
        refine v_istore_n aX6_advance_82 (by decide) rfl ?_
        refine v_aload_n aX6_advance_83 rfl ?_
        refine v_gi 1 rfl aX6_advance_84 fX6_15 hW.p rfl rfl ?_
        rw [row_ne (show w ≠ w + 1 by omega), hlen]
        refine v_iconst aX6_advance_87 ?_
        refine v_isub aX6_advance_88 ?_
        refine v_istore aX6_advance_89 (by decide) rfl ?_
        have q2 : μ (w + 1) p < μ (w + 1) q := by
          rcases Int.lt_or_eq_of_le c64 with e | e
          · exact e
          · exact absurd (hp.2 p q (by omega) (by omega) (by omega) (by omega) e) (by omega)
        refine l3_X6_advance hW hn hlen hp p0 p1 p2 p3 h0.1 h0.2 q2 h2 7 (p + 1) (n - 1) _ (by omega) (by omega) (fun k k0 k1 => ?_)
        rw [if_neg (by omega)]
      · --
        refine v_iinc aX6_advance_67 rfl (by decide) rfl ?_
        refine v_goto 47 rfl aX6_advance_70 ?_
        have ne : q ≠ p + 1 := fun e => by rw [e] at c64; omega
        refine ih (q + -1) (by omega) (by omega) (fun k k0 k1 => ?_)
        by_cases e : k = q
        · rw [e]; omega
        · exact h2 k (by omega) k1
set_option maxHeartbeats 4000000 in
set_option maxRecDepth 100000 in
theorem l1_X6_advance (hW : WlnS S w) (hn : 2 ≤ n ∧ n ≤ 6) (hlen : μ w 1 = n) (hp : Pm n (μ (w + 1))) : ∀ (N : Nat) (p : Int), (-1 ≤ p ∧ p + 1 < n) → p + 1 < N → (∀ k : Int, p < k → k + 1 < n → (μ (w + 1)) (k + 1) < (μ (w + 1)) k) → V l G cX6_advance (yX6_advance, 5, (some FieldType.boolean), 1, 0, 0) (Re S (fun z μ' => (z = 0 ∧ (∀ p : Int, 0 ≤ p → p + 1 < n → ¬ (μ (w + 1)) p < (μ (w + 1)) (p + 1)) ∧ μ' = μ) ∨ (z = 1 ∧ ∃ p q : Int, 0 ≤ p ∧ p + 1 < n ∧ (μ (w + 1)) p < (μ (w + 1)) (p + 1) ∧ (∀ k : Int, p < k → k + 1 < n → (μ (w + 1)) (k + 1) < (μ (w + 1)) k) ∧ p < q ∧ q < n ∧ (μ (w + 1)) p < (μ (w + 1)) q ∧ (∀ k : Int, q < k → k < n → (μ (w + 1)) k < (μ (w + 1)) p) ∧ (∀ k : Int, 0 ≤ k → k < n → μ' (w + 1) k = nxI (μ (w + 1)) n p q k) ∧ ∀ r : Nat, r ≠ w + 1 → μ' r = μ r))) (0, 0) S μ 7 [.ref w, vi p] [] := by
  intro N
  induction N with
  | zero => intros; omega
  | succ N ih =>
    intro p h0 h1 h2
    have hpp := fun z => hp.1 p z (by omega)
    have hp1 := hp.1 (p + 1) (by omega) (by omega)
    have hpl := hp.1 (n - 1) (by omega) (by omega)
    refine v_iload_n aX6_advance_7 rfl ?_
    refine v_if_lt 34 rfl aX6_advance_8 (by omega) (fun c8 => ?_) (fun c8 => ?_)
    · --
      refine v_iload_n aX6_advance_34 rfl ?_
      refine v_if_ge 40 rfl aX6_advance_35 (by omega) (fun c35 => ?_) (fun c35 => ?_)
      · --
        refine v_aload_n aX6_advance_40 rfl ?_
        refine v_gi 1 rfl aX6_advance_41 fX6_15 hW.p rfl rfl ?_
        rw [hlen]
        refine v_iconst aX6_advance_44 ?_
        refine v_isub aX6_advance_45 ?_
        refine v_istore_n aX6_advance_46 (by decide) rfl ?_
        first
          | (exfalso; omega)
          | (have p2 : μ (w + 1) p < μ (w + 1) (p + 1) := by
               rcases Int.lt_or_eq_of_le c25 with e | e
               · exact e
               · exact absurd (hp.2 p (p + 1) (by omega) (by omega) (by omega) (by omega) e) (by omega)
             exact l2_X6_advance hW hn hlen hp (by omega) (by omega) p2 h2 7 (n - 1) (by omega) (by omega) (fun k k0 k1 => by omega))
      · --
        refine v_iconst aX6_advance_38 ?_
        refine v_zreturn aX6_advance_39 rfl ⟨Nat.le_refl _, Nat.le_refl _⟩ (by first | exact Or.inl rfl | exact Or.inr rfl | exact b2i_01 | omega) ?_
        first
          | (exfalso; omega)
          | (obtain rfl : p = -1 := by omega
             exact ⟨0, rfl, rfl, Or.inl ⟨rfl, fun k k0 k1 z => by have := h2 k (by omega) k1; omega, rfl⟩⟩)
    · --
      have hpp := hpp (by omega)
      refine v_aload_n aX6_advance_11 rfl ?_
      refine v_getr aX6_advance_12 fX6_9 hW.p rfl rfl ?_
      refine v_iload_n aX6_advance_15 rfl ?_
      refine v_iald aX6_advance_16 hW.p_line (by omega) (by decide) ?_
      refine v_aload_n aX6_advance_17 rfl ?_
      refine v_getr aX6_advance_18 fX6_9 hW.p rfl rfl ?_
      refine v_iload_n aX6_advance_21 rfl ?_
      refine v_iconst aX6_advance_22 ?_
      refine v_iadd aX6_advance_23 ?_
      refine v_iald aX6_advance_24 hW.p_line (by omega) (by decide) ?_
      refine v_icmp_le 34 rfl aX6_advance_25 (by omega) (by omega) (fun c25 => ?_) (fun c25 => ?_)
      · --
        refine v_iload_n aX6_advance_34 rfl ?_
        refine v_if_ge 40 rfl aX6_advance_35 (by omega) (fun c35 => ?_) (fun c35 => ?_)
        · --
          refine v_aload_n aX6_advance_40 rfl ?_
          refine v_gi 1 rfl aX6_advance_41 fX6_15 hW.p rfl rfl ?_
          rw [hlen]
          refine v_iconst aX6_advance_44 ?_
          refine v_isub aX6_advance_45 ?_
          refine v_istore_n aX6_advance_46 (by decide) rfl ?_
          first
            | (exfalso; omega)
            | (have p2 : μ (w + 1) p < μ (w + 1) (p + 1) := by
                 rcases Int.lt_or_eq_of_le c25 with e | e
                 · exact e
                 · exact absurd (hp.2 p (p + 1) (by omega) (by omega) (by omega) (by omega) e) (by omega)
               exact l2_X6_advance hW hn hlen hp (by omega) (by omega) p2 h2 7 (n - 1) (by omega) (by omega) (fun k k0 k1 => by omega))
        · --
          refine v_iconst aX6_advance_38 ?_
          refine v_zreturn aX6_advance_39 rfl ⟨Nat.le_refl _, Nat.le_refl _⟩ (by first | exact Or.inl rfl | exact Or.inr rfl | exact b2i_01 | omega) ?_
          first
            | (exfalso; omega)
            | (obtain rfl : p = -1 := by omega
               exact ⟨0, rfl, rfl, Or.inl ⟨rfl, fun k k0 k1 z => by have := h2 k (by omega) k1; omega, rfl⟩⟩)
      · --
        refine v_iinc aX6_advance_28 rfl (by decide) rfl ?_
        refine v_goto 7 rfl aX6_advance_31 ?_
        refine ih (p + -1) (by omega) (by omega) (fun k k0 k1 => ?_)
        by_cases e : k = p
        · rw [e]; omega
        · exact h2 k (by omega) k1
set_option maxHeartbeats 4000000 in
set_option maxRecDepth 100000 in
theorem c_X6_advance (hW : WlnS S w) (hn : 2 ≤ n ∧ n ≤ 6) (hlen : μ w 1 = n) (hp : Pm n (μ (w + 1))) : Ct l G cX6_advance (yX6_advance, 5, (some FieldType.boolean), 1, 0, 0) [.ref w] S μ (Re S (fun z μ' => (z = 0 ∧ (∀ p : Int, 0 ≤ p → p + 1 < n → ¬ (μ (w + 1)) p < (μ (w + 1)) (p + 1)) ∧ μ' = μ) ∨ (z = 1 ∧ ∃ p q : Int, 0 ≤ p ∧ p + 1 < n ∧ (μ (w + 1)) p < (μ (w + 1)) (p + 1) ∧ (∀ k : Int, p < k → k + 1 < n → (μ (w + 1)) (k + 1) < (μ (w + 1)) k) ∧ p < q ∧ q < n ∧ (μ (w + 1)) p < (μ (w + 1)) q ∧ (∀ k : Int, q < k → k < n → (μ (w + 1)) k < (μ (w + 1)) p) ∧ (∀ k : Int, 0 ≤ k → k < n → μ' (w + 1) k = nxI (μ (w + 1)) n p q k) ∧ ∀ r : Nat, r ≠ w + 1 → μ' r = μ r))) := by
  refine Ct.of (by decide) rfl (by simp [vi, Value.category]) (Nat.le_of_ble_eq_true rfl) ?_
  refine v_aload_n aX6_advance_0 rfl ?_
  refine v_gi 1 rfl aX6_advance_1 fX6_15 hW.p rfl rfl ?_
  rw [hlen]
  refine v_iconst aX6_advance_4 ?_
  refine v_isub aX6_advance_5 ?_
  refine v_istore_n aX6_advance_6 (by decide) rfl ?_
  exact l1_X6_advance hW hn hlen hp 7 (n - 2) (by omega) (by omega) (fun k k0 k1 => by omega)
end LBC
