/-! what follows: the calls of the model -/
theorem agn_c {R : Rl} {s u : Int} : (R s u ∧ R u s → agn R s u = 0) ∧ (¬ (R s u ∧ R u s) → R s u ∧ ¬ R u s → agn R s u = 1) ∧ (¬ (R s u ∧ R u s) → ¬ (R s u ∧ ¬ R u s) → R u s ∧ ¬ R s u → agn R s u = 2) ∧ (¬ (R s u ∧ R u s) → ¬ (R s u ∧ ¬ R u s) → ¬ (R u s ∧ ¬ R s u) → agn R s u = -6) := by
  unfold agn
  refine ⟨fun h => if_pos (b2i_t h), fun h h1 => ?_, fun h h1 h2 => ?_, fun h h1 h2 => ?_⟩
  · rw [if_neg (fun q => h (b2i_1.mp q)), if_pos (b2i_t h1.1)]
  · rw [if_neg (fun q => h (b2i_1.mp q)), if_neg (fun q => h2.2 (b2i_1.mp q)), if_pos (b2i_t h2.1)]
  · have n1 : ¬ R s u := fun q => (Classical.em (R u s)).elim (fun z => h ⟨q, z⟩) (fun z => h1 ⟨q, z⟩)
    have n2 : ¬ R u s := fun q => h2 ⟨q, n1⟩
    rw [if_neg (fun q => h (b2i_1.mp q)), if_neg (fun q => n1 (b2i_1.mp q)), if_neg (fun q => n2 (b2i_1.mp q))]
theorem payI_1 {T : Int → Int} {e lo : Int} (h : 0 ≤ T lo ∧ T lo ≤ 99) : payI T e lo 1 = T lo := by
  show bstN e (if e = 0 then 99 else 0) (T (lo + ((0 : Nat) : Int))) = T lo
  rw [show lo + ((0 : Nat) : Int) = lo by omega]
  unfold bstN
  by_cases q : e = 0
  · rw [if_pos q, if_pos q]; omega
  · rw [if_neg q, if_neg q]; omega
theorem payI_s {T : Int → Int} {e lo r : Int} (h : lo ≤ r) : payI T e lo (r + 1 - lo).toNat = bstN e (payI T e lo (r - lo).toNat) (T r) := by
  rw [show (r + 1 - lo).toNat = (r - lo).toNat + 1 by omega]
  show bstN e _ (T (lo + ((r - lo).toNat : Int))) = _
  rw [show lo + ((r - lo).toNat : Int) = r by omega]
theorem sum_one {f : Int → Int} {s : Int} (n : Nat) (hs : 0 ≤ s ∧ s < n) : sumN (fun j => if s = j then f j else 0) n = f s := by
  rw [sumN_ge (a := s.toNat + 1) (by omega) (fun i i0 i1 => if_neg (by omega))]
  show sumN _ s.toNat + (if s = (s.toNat : Int) then f (s.toNat : Int) else 0) = f s
  rw [sumN_0 _ (fun i i0 i1 => if_neg (by omega)), show ((s.toNat : Nat) : Int) = s by omega, if_pos rfl]
  omega
section MG2
variable {l : Launch} {G : Glb} {S : Sh} {μ : Mu} {m : Nat} {t : BSt} {g : Int → Int} {n B : Int} {R : Rl}
set_option maxHeartbeats 4000000 in
set_option maxRecDepth 100000 in
theorem li_X8_paysOf {s e lo hh : Int} (hM : ModS S m) (hf : FolR μ m R) (hg : GrAt μ m R n) (hn : 0 ≤ n ∧ n ≤ 6) {T : Int → Int} (hT : Eq6 (μ (m + 4)) T) (hT9 : ∀ i : Int, 0 ≤ i → i < 6 → 0 ≤ T i ∧ T i ≤ 99) (hRT : RT R) (hs : 0 ≤ s ∧ s < n) (he : 0 ≤ e ∧ e ≤ 1) (hlo : lo = rkN R n s 0) (hhi : hh = rkN R n s 1) : ∀ (N : Nat) (r p : Int) (L : List Value), (lo ≤ r ∧ r ≤ hh + 1) → hh + 1 - r < N → (p = payI T e lo (r - lo).toNat ∨ (r = lo ∧ p = payI T e lo 1)) → V l G cX8_paysOf (yX8_paysOf, 6, (some FieldType.int), 1, 0, 0) (Ri S (pay1 T R n s e) μ) (0, 0) S μ 20 ([.ref m, vi s, vi e, vi p, vi r] ++ L) [] := by
  intro N
  induction N with
  | zero => intros; omega
  | succ N ih =>
    intro r p L h0 h1 hp
    have hrk := rk_le (R := R) (n := n) (s := s) hRT (by omega) (by omega)
    rw [← hlo, ← hhi] at hrk
    have hp1 := payI_1 (e := e) (hT9 lo (by omega) (by omega))
    have hlo9 := hT9 lo (by omega) (by omega)
    have hpr := payI_r (T := T) (e := e) (lo := lo) (r - lo).toNat (fun i i0 i1 => hT9 i (by omega) (by omega))
    have hpr2 : 0 ≤ p ∧ p ≤ 99 := by rcases hp with hp | ⟨-, hp⟩ <;> omega
    refine v_take 5 rfl ?_
    show V _ _ _ _ _ _ _ _ _ [.ref m, vi s, vi e, vi p, vi r] _
    refine v_iload aX8_paysOf_20 rfl ?_
    refine v_aload_n aX8_paysOf_22 rfl ?_
    refine v_iload_n aX8_paysOf_23 rfl ?_
    refine v_iconst aX8_paysOf_24 ?_
    refine v_cVi (c_X8_rankOf hM hf hg hn hs (by decide)) aX8_paysOf_25 mX8_rankOf vX8_rankOf lX8_127 hM.p rfl rfl rfl rfl rfl (Nat.le_of_ble_eq_true rfl) ⟨Nat.le_of_ble_eq_true rfl, Nat.le_of_ble_eq_true rfl⟩ (Nat.le_of_ble_eq_true rfl) ?_
    refine v_top hhi.symm ?_
    refine v_icmp_gt 95 rfl aX8_paysOf_28 (by omega) (by omega) (fun c28 => ?_) (fun c28 => ?_)
    · --
      refine v_iload_n aX8_paysOf_95 rfl ?_
      refine v_ireturn aX8_paysOf_96 rfl ⟨Nat.le_refl _, Nat.le_refl _⟩ ?_
      obtain rfl : r = hh + 1 := by omega
      subst hlo hhi
      refine ⟨?_, rfl, rfl⟩
      rcases hp with hp | ⟨e1, hp⟩
      · rw [hp]; rfl
      · omega
    · --
      have htr := hT9 r (by omega) (by omega)
      have hr6 := hT r (by omega) (by omega)
      refine v_iload_n aX8_paysOf_31 rfl ?_
      refine v_if_ne 54 rfl aX8_paysOf_32 (by omega) (fun c32 => ?_) (fun c32 => ?_)
      · --
        refine v_aload_n aX8_paysOf_54 rfl ?_
        refine v_getr aX8_paysOf_55 fX8_23 hM.p rfl rfl ?_
        refine v_iload aX8_paysOf_58 rfl ?_
        refine v_iald aX8_paysOf_60 hM.p_tolls (by omega) (by decide) ?_
        rw [hr6]
        refine v_iload_n aX8_paysOf_61 rfl ?_
        refine v_icmp_le 69 rfl aX8_paysOf_62 (by omega) (by omega) (fun c62 => ?_) (fun c62 => ?_)
        · --
          refine v_iconst aX8_paysOf_69 ?_
          refine v_istore aX8_paysOf_70 (by decide) rfl ?_
          refine v_iload aX8_paysOf_72 rfl ?_
          refine v_if_eq 87 rfl aX8_paysOf_74 (by omega) (fun c74 => ?_) (fun c74 => ?_)
          · --
            refine v_iload_n aX8_paysOf_87 rfl ?_
            refine v_istore_n aX8_paysOf_88 (by decide) rfl ?_
            refine v_iinc aX8_paysOf_89 rfl (by decide) rfl ?_
            refine v_goto 20 rfl aX8_paysOf_92 ?_
            first
              | (exfalso; omega)
              | (refine ih (r + 1) _ [vi _] (by omega) (by omega) (Or.inl ?_)
                 rw [payI_s h0.1]
                 rcases hp with hp | ⟨e1, hp⟩
                 · rw [← hp]; unfold bstN; first | (rw [if_pos (by omega)]; omega) | (rw [if_neg (by omega)]; omega)
                 · rw [hp1, ← e1] at hp
                   rw [show (r - lo).toNat = 0 by omega]
                   show _ = bstN e (if e = 0 then 99 else 0) (T r)
                   unfold bstN; first | (rw [if_pos (show e = 0 by omega), if_pos (show e = 0 by omega)]; omega) | (rw [if_neg (show ¬ e = 0 by omega), if_neg (show ¬ e = 0 by omega)]; omega))
          · --
            refine v_aload_n aX8_paysOf_77 rfl ?_
            refine v_getr aX8_paysOf_78 fX8_23 hM.p rfl rfl ?_
            refine v_iload aX8_paysOf_81 rfl ?_
            refine v_iald aX8_paysOf_83 hM.p_tolls (by omega) (by decide) ?_
            rw [hr6]
            refine v_goto 88 rfl aX8_paysOf_84 ?_
            refine v_istore_n aX8_paysOf_88 (by decide) rfl ?_
            refine v_iinc aX8_paysOf_89 rfl (by decide) rfl ?_
            refine v_goto 20 rfl aX8_paysOf_92 ?_
            first
              | (exfalso; omega)
              | (refine ih (r + 1) _ [vi _] (by omega) (by omega) (Or.inl ?_)
                 rw [payI_s h0.1]
                 rcases hp with hp | ⟨e1, hp⟩
                 · rw [← hp]; unfold bstN; first | (rw [if_pos (by omega)]; omega) | (rw [if_neg (by omega)]; omega)
                 · rw [hp1, ← e1] at hp
                   rw [show (r - lo).toNat = 0 by omega]
                   show _ = bstN e (if e = 0 then 99 else 0) (T r)
                   unfold bstN; first | (rw [if_pos (show e = 0 by omega), if_pos (show e = 0 by omega)]; omega) | (rw [if_neg (show ¬ e = 0 by omega), if_neg (show ¬ e = 0 by omega)]; omega))
        · --
          refine v_iconst aX8_paysOf_65 ?_
          refine v_goto 70 rfl aX8_paysOf_66 ?_
          refine v_istore aX8_paysOf_70 (by decide) rfl ?_
          refine v_iload aX8_paysOf_72 rfl ?_
          refine v_if_eq 87 rfl aX8_paysOf_74 (by omega) (fun c74 => ?_) (fun c74 => ?_)
          · --
            refine v_iload_n aX8_paysOf_87 rfl ?_
            refine v_istore_n aX8_paysOf_88 (by decide) rfl ?_
            refine v_iinc aX8_paysOf_89 rfl (by decide) rfl ?_
            refine v_goto 20 rfl aX8_paysOf_92 ?_
            first
              | (exfalso; omega)
              | (refine ih (r + 1) _ [vi _] (by omega) (by omega) (Or.inl ?_)
                 rw [payI_s h0.1]
                 rcases hp with hp | ⟨e1, hp⟩
                 · rw [← hp]; unfold bstN; first | (rw [if_pos (by omega)]; omega) | (rw [if_neg (by omega)]; omega)
                 · rw [hp1, ← e1] at hp
                   rw [show (r - lo).toNat = 0 by omega]
                   show _ = bstN e (if e = 0 then 99 else 0) (T r)
                   unfold bstN; first | (rw [if_pos (show e = 0 by omega), if_pos (show e = 0 by omega)]; omega) | (rw [if_neg (show ¬ e = 0 by omega), if_neg (show ¬ e = 0 by omega)]; omega))
          · --
            refine v_aload_n aX8_paysOf_77 rfl ?_
            refine v_getr aX8_paysOf_78 fX8_23 hM.p rfl rfl ?_
            refine v_iload aX8_paysOf_81 rfl ?_
            refine v_iald aX8_paysOf_83 hM.p_tolls (by omega) (by decide) ?_
            rw [hr6]
            refine v_goto 88 rfl aX8_paysOf_84 ?_
            refine v_istore_n aX8_paysOf_88 (by decide) rfl ?_
            refine v_iinc aX8_paysOf_89 rfl (by decide) rfl ?_
            refine v_goto 20 rfl aX8_paysOf_92 ?_
            first
              | (exfalso; omega)
              | (refine ih (r + 1) _ [vi _] (by omega) (by omega) (Or.inl ?_)
                 rw [payI_s h0.1]
                 rcases hp with hp | ⟨e1, hp⟩
                 · rw [← hp]; unfold bstN; first | (rw [if_pos (by omega)]; omega) | (rw [if_neg (by omega)]; omega)
                 · rw [hp1, ← e1] at hp
                   rw [show (r - lo).toNat = 0 by omega]
                   show _ = bstN e (if e = 0 then 99 else 0) (T r)
                   unfold bstN; first | (rw [if_pos (show e = 0 by omega), if_pos (show e = 0 by omega)]; omega) | (rw [if_neg (show ¬ e = 0 by omega), if_neg (show ¬ e = 0 by omega)]; omega))
      · --
        refine v_aload_n aX8_paysOf_35 rfl ?_
        refine v_getr aX8_paysOf_36 fX8_23 hM.p rfl rfl ?_
        refine v_iload aX8_paysOf_39 rfl ?_
        refine v_iald aX8_paysOf_41 hM.p_tolls (by omega) (by decide) ?_
        rw [hr6]
        refine v_iload_n aX8_paysOf_42 rfl ?_
        refine v_icmp_ge 50 rfl aX8_paysOf_43 (by omega) (by omega) (fun c43 => ?_) (fun c43 => ?_)
        · --
          refine v_iconst aX8_paysOf_50 ?_
          refine v_goto 70 rfl aX8_paysOf_51 ?_
          refine v_istore aX8_paysOf_70 (by decide) rfl ?_
          refine v_iload aX8_paysOf_72 rfl ?_
          refine v_if_eq 87 rfl aX8_paysOf_74 (by omega) (fun c74 => ?_) (fun c74 => ?_)
          · --
            refine v_iload_n aX8_paysOf_87 rfl ?_
            refine v_istore_n aX8_paysOf_88 (by decide) rfl ?_
            refine v_iinc aX8_paysOf_89 rfl (by decide) rfl ?_
            refine v_goto 20 rfl aX8_paysOf_92 ?_
            first
              | (exfalso; omega)
              | (refine ih (r + 1) _ [vi _] (by omega) (by omega) (Or.inl ?_)
                 rw [payI_s h0.1]
                 rcases hp with hp | ⟨e1, hp⟩
                 · rw [← hp]; unfold bstN; first | (rw [if_pos (by omega)]; omega) | (rw [if_neg (by omega)]; omega)
                 · rw [hp1, ← e1] at hp
                   rw [show (r - lo).toNat = 0 by omega]
                   show _ = bstN e (if e = 0 then 99 else 0) (T r)
                   unfold bstN; first | (rw [if_pos (show e = 0 by omega), if_pos (show e = 0 by omega)]; omega) | (rw [if_neg (show ¬ e = 0 by omega), if_neg (show ¬ e = 0 by omega)]; omega))
          · --
            refine v_aload_n aX8_paysOf_77 rfl ?_
            refine v_getr aX8_paysOf_78 fX8_23 hM.p rfl rfl ?_
            refine v_iload aX8_paysOf_81 rfl ?_
            refine v_iald aX8_paysOf_83 hM.p_tolls (by omega) (by decide) ?_
            rw [hr6]
            refine v_goto 88 rfl aX8_paysOf_84 ?_
            refine v_istore_n aX8_paysOf_88 (by decide) rfl ?_
            refine v_iinc aX8_paysOf_89 rfl (by decide) rfl ?_
            refine v_goto 20 rfl aX8_paysOf_92 ?_
            first
              | (exfalso; omega)
              | (refine ih (r + 1) _ [vi _] (by omega) (by omega) (Or.inl ?_)
                 rw [payI_s h0.1]
                 rcases hp with hp | ⟨e1, hp⟩
                 · rw [← hp]; unfold bstN; first | (rw [if_pos (by omega)]; omega) | (rw [if_neg (by omega)]; omega)
                 · rw [hp1, ← e1] at hp
                   rw [show (r - lo).toNat = 0 by omega]
                   show _ = bstN e (if e = 0 then 99 else 0) (T r)
                   unfold bstN; first | (rw [if_pos (show e = 0 by omega), if_pos (show e = 0 by omega)]; omega) | (rw [if_neg (show ¬ e = 0 by omega), if_neg (show ¬ e = 0 by omega)]; omega))
        · --
          refine v_iconst aX8_paysOf_46 ?_
          refine v_goto 70 rfl aX8_paysOf_47 ?_
          refine v_istore aX8_paysOf_70 (by decide) rfl ?_
          refine v_iload aX8_paysOf_72 rfl ?_
          refine v_if_eq 87 rfl aX8_paysOf_74 (by omega) (fun c74 => ?_) (fun c74 => ?_)
          · --
            refine v_iload_n aX8_paysOf_87 rfl ?_
            refine v_istore_n aX8_paysOf_88 (by decide) rfl ?_
            refine v_iinc aX8_paysOf_89 rfl (by decide) rfl ?_
            refine v_goto 20 rfl aX8_paysOf_92 ?_
            first
              | (exfalso; omega)
              | (refine ih (r + 1) _ [vi _] (by omega) (by omega) (Or.inl ?_)
                 rw [payI_s h0.1]
                 rcases hp with hp | ⟨e1, hp⟩
                 · rw [← hp]; unfold bstN; first | (rw [if_pos (by omega)]; omega) | (rw [if_neg (by omega)]; omega)
                 · rw [hp1, ← e1] at hp
                   rw [show (r - lo).toNat = 0 by omega]
                   show _ = bstN e (if e = 0 then 99 else 0) (T r)
                   unfold bstN; first | (rw [if_pos (show e = 0 by omega), if_pos (show e = 0 by omega)]; omega) | (rw [if_neg (show ¬ e = 0 by omega), if_neg (show ¬ e = 0 by omega)]; omega))
          · --
            refine v_aload_n aX8_paysOf_77 rfl ?_
            refine v_getr aX8_paysOf_78 fX8_23 hM.p rfl rfl ?_
            refine v_iload aX8_paysOf_81 rfl ?_
            refine v_iald aX8_paysOf_83 hM.p_tolls (by omega) (by decide) ?_
            rw [hr6]
            refine v_goto 88 rfl aX8_paysOf_84 ?_
            refine v_istore_n aX8_paysOf_88 (by decide) rfl ?_
            refine v_iinc aX8_paysOf_89 rfl (by decide) rfl ?_
            refine v_goto 20 rfl aX8_paysOf_92 ?_
            first
              | (exfalso; omega)
              | (refine ih (r + 1) _ [vi _] (by omega) (by omega) (Or.inl ?_)
                 rw [payI_s h0.1]
                 rcases hp with hp | ⟨e1, hp⟩
                 · rw [← hp]; unfold bstN; first | (rw [if_pos (by omega)]; omega) | (rw [if_neg (by omega)]; omega)
                 · rw [hp1, ← e1] at hp
                   rw [show (r - lo).toNat = 0 by omega]
                   show _ = bstN e (if e = 0 then 99 else 0) (T r)
                   unfold bstN; first | (rw [if_pos (show e = 0 by omega), if_pos (show e = 0 by omega)]; omega) | (rw [if_neg (show ¬ e = 0 by omega), if_neg (show ¬ e = 0 by omega)]; omega))
set_option maxHeartbeats 4000000 in
set_option maxRecDepth 100000 in
theorem c_X8_paysOf {s e : Int} (hM : ModS S m) (hf : FolR μ m R) (hg : GrAt μ m R n) (hn : 0 ≤ n ∧ n ≤ 6) {T : Int → Int} (hT : Eq6 (μ (m + 4)) T) (hT9 : ∀ i : Int, 0 ≤ i → i < 6 → 0 ≤ T i ∧ T i ≤ 99) (hRT : RT R) (hs : 0 ≤ s ∧ s < n) (he : 0 ≤ e ∧ e ≤ 1) : Ct l G cX8_paysOf (yX8_paysOf, 6, (some FieldType.int), 1, 0, 0) [.ref m, vi s, vi e] S μ (Ri S (pay1 T R n s e) μ) := by
  have hrk := rk_le (R := R) (n := n) (s := s) hRT (by omega) (by omega)
  refine Ct.of (by decide) rfl (by simp [vi, Value.category]) (Nat.le_of_ble_eq_true rfl) ?_
  refine v_aload_n aX8_paysOf_0 rfl ?_
  refine v_getr aX8_paysOf_1 fX8_23 hM.p rfl rfl ?_
  refine v_aload_n aX8_paysOf_4 rfl ?_
  refine v_iload_n aX8_paysOf_5 rfl ?_
  refine v_iconst aX8_paysOf_6 ?_
  refine v_cVi (c_X8_rankOf hM hf hg hn hs (by decide)) aX8_paysOf_7 mX8_rankOf vX8_rankOf lX8_127 hM.p rfl rfl rfl rfl rfl (Nat.le_of_ble_eq_true rfl) ⟨Nat.le_of_ble_eq_true rfl, Nat.le_of_ble_eq_true rfl⟩ (Nat.le_of_ble_eq_true rfl) ?_
  refine v_iald aX8_paysOf_10 hM.p_tolls (by omega) (by decide) ?_
  rw [hT _ (by omega) (by omega)]
  refine v_istore_n aX8_paysOf_11 (by decide) rfl ?_
  refine v_aload_n aX8_paysOf_12 rfl ?_
  refine v_iload_n aX8_paysOf_13 rfl ?_
  refine v_iconst aX8_paysOf_14 ?_
  refine v_cVi (c_X8_rankOf hM hf hg hn hs (by decide)) aX8_paysOf_15 mX8_rankOf vX8_rankOf lX8_127 hM.p rfl rfl rfl rfl rfl (Nat.le_of_ble_eq_true rfl) ⟨Nat.le_of_ble_eq_true rfl, Nat.le_of_ble_eq_true rfl⟩ (Nat.le_of_ble_eq_true rfl) ?_
  refine v_istore aX8_paysOf_18 (by decide) rfl ?_
  exact li_X8_paysOf hM hf hg hn hT hT9 hRT hs he rfl rfl 8 _ _ [] (by omega) (by omega) (Or.inr ⟨rfl, (payI_1 (hT9 _ (by omega) (by omega))).symm⟩)
set_option maxHeartbeats 4000000 in
set_option maxRecDepth 100000 in
theorem c_X8_follows {s u : Int} (hM : ModS S m) (h : MoAt μ m t g n) (hok : StOk t B) (hs : (-2147483648 ≤ s ∧ s < 2147483648)) (hu : (-2147483648 ≤ u ∧ u < 2147483648)) : Ct l G cX8_follows (yX8_follows, 3, (some FieldType.int), 3, 0, 0) [.ref m, vi s, vi u] S μ (Re S (fun z μ' => z = sp_follows t s u ∧ MoAt μ' m t g n ∧ Out μ μ' m 20)) := by
  obtain ⟨o1, o2, o3, o4, o5⟩ := id hok
  have f0 : μ m 0 = t.1 := h.1.1
  refine Ct.of (by decide) rfl (by simp [vi, Value.category]) (Nat.le_of_ble_eq_true rfl) ?_
  refine v_aload_n aX8_follows_0 rfl ?_
  refine v_iload_n aX8_follows_1 rfl ?_
  refine v_cVi (c_X8_isSack hM (by omega) (by omega)) aX8_follows_2 mX8_isSack vX8_isSack lX8_89 hM.p rfl rfl rfl rfl rfl (Nat.le_of_ble_eq_true rfl) ⟨Nat.le_of_ble_eq_true rfl, Nat.le_of_ble_eq_true rfl⟩ (Nat.le_of_ble_eq_true rfl) ?_
  refine v_if_eq_b 16 rfl aX8_follows_5 (fun c5 => ?_) (fun c5 => ?_)
  · --
    refine v_iconst aX8_follows_16 ?_
    refine v_ireturn aX8_follows_17 rfl ⟨Nat.le_refl _, Nat.le_refl _⟩ ?_
    rw [show sp_follows t s u = -1 from if_neg (by omega)]
    exact ⟨_, rfl, rfl, rfl, h, Out.rf⟩
  · --
    refine v_aload_n aX8_follows_8 rfl ?_
    refine v_iload_n aX8_follows_9 rfl ?_
    refine v_cVi (c_X8_isSack hM (by omega) (by omega)) aX8_follows_10 mX8_isSack vX8_isSack lX8_89 hM.p rfl rfl rfl rfl rfl (Nat.le_of_ble_eq_true rfl) ⟨Nat.le_of_ble_eq_true rfl, Nat.le_of_ble_eq_true rfl⟩ (Nat.le_of_ble_eq_true rfl) ?_
    refine v_if_ne_b 18 rfl aX8_follows_13 (fun c13 => ?_) (fun c13 => ?_)
    · --
      refine v_aload_n aX8_follows_18 rfl ?_
      refine v_cVe (c_X8_followAll hM h.1 hok) aX8_follows_19 mX8_followAll vX8_followAll lX8_111 hM.p rfl rfl rfl rfl rfl (Nat.le_of_ble_eq_true rfl) ⟨Nat.le_of_ble_eq_true rfl, Nat.le_of_ble_eq_true rfl⟩ (Nat.le_of_ble_eq_true rfl) (fun z μ' hz => ?_)
      obtain ⟨rfl, r1, r2⟩ := hz
      have r3 : MoAt μ' m t g n := h.kp (fun i _ => by rw [r2 m (by omega) (by omega)]) (fun q q0 q1 => r2 q (by omega) (by omega))
      have r4 : Out μ μ' m 20 := fun q hq => r2 q (by omega) (by omega)
      have f1 : μ' m 0 = t.1 := r3.1.1
      refine v_if_ne_b 28 rfl aX8_follows_22 (fun c22 => ?_) (fun c22 => ?_)
      · --
        have r5 := r1.toR c22
        refine v_aload_n aX8_follows_28 rfl ?_
        refine v_getr aX8_follows_29 fX8_39 hM.p rfl rfl ?_
        refine v_bipush (by decide) aX8_follows_32 ?_
        refine v_iload_n aX8_follows_34 rfl ?_
        refine v_imul aX8_follows_35 ?_
        refine v_iload_n aX8_follows_36 rfl ?_
        refine v_iadd aX8_follows_37 ?_
        refine v_zald aX8_follows_38 hM.p_same (by omega) (by decide) ?_
        rw [r5.1 s u (by omega) (by omega) (by omega) (by omega)]
        refine v_if_eq_b 46 rfl aX8_follows_39 (fun c39 => ?_) (fun c39 => ?_)
        · --
          refine v_aload_n aX8_follows_46 rfl ?_
          refine v_getr aX8_follows_47 fX8_35 hM.p rfl rfl ?_
          refine v_bipush (by decide) aX8_follows_50 ?_
          refine v_iload_n aX8_follows_52 rfl ?_
          refine v_imul aX8_follows_53 ?_
          refine v_iload_n aX8_follows_54 rfl ?_
          refine v_iadd aX8_follows_55 ?_
          refine v_zald aX8_follows_56 hM.p_over (by omega) (by decide) ?_
          rw [r5.2 s u (by omega) (by omega) (by omega) (by omega)]
          refine v_if_eq_b 64 rfl aX8_follows_57 (fun c57 => ?_) (fun c57 => ?_)
          · --
            refine v_aload_n aX8_follows_64 rfl ?_
            refine v_getr aX8_follows_65 fX8_35 hM.p rfl rfl ?_
            refine v_bipush (by decide) aX8_follows_68 ?_
            refine v_iload_n aX8_follows_70 rfl ?_
            refine v_imul aX8_follows_71 ?_
            refine v_iload_n aX8_follows_72 rfl ?_
            refine v_iadd aX8_follows_73 ?_
            refine v_zald aX8_follows_74 hM.p_over (by omega) (by decide) ?_
            rw [r5.2 u s (by omega) (by omega) (by omega) (by omega)]
            refine v_if_eq_b 82 rfl aX8_follows_75 (fun c75 => ?_) (fun c75 => ?_)
            · --
              refine v_bipush (by decide) aX8_follows_82 ?_
              refine v_ireturn aX8_follows_84 rfl ⟨Nat.le_refl _, Nat.le_refl _⟩ ?_
              refine ⟨_, rfl, rfl, ?_, r3, r4⟩
              unfold sp_follows
              rw [if_pos (by omega), if_pos (b2i_t c22)]
              exact (agn_c.2.2.2 c39 c57 c75).symm
            · --
              refine v_iconst aX8_follows_78 ?_
              refine v_goto 84 rfl aX8_follows_79 ?_
              refine v_ireturn aX8_follows_84 rfl ⟨Nat.le_refl _, Nat.le_refl _⟩ ?_
              refine ⟨_, rfl, rfl, ?_, r3, r4⟩
              unfold sp_follows
              rw [if_pos (by omega), if_pos (b2i_t c22)]
              exact (agn_c.2.2.1 c39 c57 c75).symm
          · --
            refine v_iconst aX8_follows_60 ?_
            refine v_goto 84 rfl aX8_follows_61 ?_
            refine v_ireturn aX8_follows_84 rfl ⟨Nat.le_refl _, Nat.le_refl _⟩ ?_
            refine ⟨_, rfl, rfl, ?_, r3, r4⟩
            unfold sp_follows
            rw [if_pos (by omega), if_pos (b2i_t c22)]
            exact (agn_c.2.1 c39 c57).symm
        · --
          refine v_iconst aX8_follows_42 ?_
          refine v_goto 84 rfl aX8_follows_43 ?_
          refine v_ireturn aX8_follows_84 rfl ⟨Nat.le_refl _, Nat.le_refl _⟩ ?_
          refine ⟨_, rfl, rfl, ?_, r3, r4⟩
          unfold sp_follows
          rw [if_pos (by omega), if_pos (b2i_t c22)]
          exact (agn_c.1 c39).symm
      · --
        refine v_bipush (by decide) aX8_follows_25 ?_
        refine v_ireturn aX8_follows_27 rfl ⟨Nat.le_refl _, Nat.le_refl _⟩ ?_
        unfold sp_follows
        rw [if_pos (by omega), if_neg (fun q => c22 (b2i_1.mp q))]
        exact ⟨_, rfl, rfl, rfl, r3, r4⟩
    · --
      refine v_iconst aX8_follows_16 ?_
      refine v_ireturn aX8_follows_17 rfl ⟨Nat.le_refl _, Nat.le_refl _⟩ ?_
      rw [show sp_follows t s u = -1 from if_neg (by omega)]
      exact ⟨_, rfl, rfl, rfl, h, Out.rf⟩
set_option maxHeartbeats 4000000 in
set_option maxRecDepth 100000 in
theorem c_X8_open {w : Int} (hM : ModS S m) (h : MoAt μ m t g n) (hok : StOk t B) (hw : (-2147483648 ≤ w ∧ w < 2147483648)) : Ct l G cX8_open (yX8_open, 3, (some FieldType.int), 3, 0, 0) [.ref m, vi w] S μ (Re S (fun z μ' => z = sp_open t w ∧ MoAt μ' m t g n ∧ Out μ μ' m 20)) := by
  obtain ⟨o1, o2, o3, o4, o5⟩ := id hok
  have f0 : μ m 0 = t.1 := h.1.1
  refine Ct.of (by decide) rfl (by simp [vi, Value.category]) (Nat.le_of_ble_eq_true rfl) ?_
  refine v_iload_n aX8_open_0 rfl ?_
  refine v_iconst aX8_open_1 ?_
  refine v_iconst aX8_open_2 ?_
  refine v_cSi (c_X8_in (by omega) (by decide) (by decide)) aX8_open_3 mX8_in sX8_in lX8_79 rfl rfl (Nat.le_of_ble_eq_true rfl) ⟨Nat.le_of_ble_eq_true rfl, Nat.le_of_ble_eq_true rfl⟩ (Nat.le_of_ble_eq_true rfl) ?_
  refine v_if_ne_b 12 rfl aX8_open_6 (fun c6 => ?_) (fun c6 => ?_)
  · --
    refine v_aload_n aX8_open_12 rfl ?_
    refine v_cVe (c_X8_followAll hM h.1 hok) aX8_open_13 mX8_followAll vX8_followAll lX8_111 hM.p rfl rfl rfl rfl rfl (Nat.le_of_ble_eq_true rfl) ⟨Nat.le_of_ble_eq_true rfl, Nat.le_of_ble_eq_true rfl⟩ (Nat.le_of_ble_eq_true rfl) (fun z μ' hz => ?_)
    obtain ⟨rfl, r1, r2⟩ := hz
    have r3 : MoAt μ' m t g n := h.kp (fun i _ => by rw [r2 m (by omega) (by omega)]) (fun q q0 q1 => r2 q (by omega) (by omega))
    have r4 : Out μ μ' m 20 := fun q hq => r2 q (by omega) (by omega)
    have f1 : μ' m 0 = t.1 := r3.1.1
    refine v_istore_n aX8_open_16 (by decide) rfl ?_
    refine v_iload_n aX8_open_17 rfl ?_
    refine v_iconst aX8_open_18 ?_
    refine v_icmp_ne 32 rfl aX8_open_19 (by omega) (by omega) (fun c19 => ?_) (fun c19 => ?_)
    · --
      refine v_iload_n aX8_open_32 rfl ?_
      refine v_if_ne_b 39 rfl aX8_open_33 (fun c33 => ?_) (fun c33 => ?_)
      · --
        have r5 := r1.toR c33
        refine v_aload_n aX8_open_39 rfl ?_
        refine v_cVw (c_X8_layGroups hM r5 RT_Rg (by omega)) aX8_open_40 mX8_layGroups vX8_layGroups lX8_121 hM.p rfl rfl rfl rfl rfl (Nat.le_of_ble_eq_true rfl) ⟨Nat.le_of_ble_eq_true rfl, Nat.le_of_ble_eq_true rfl⟩ (Nat.le_of_ble_eq_true rfl) (fun μ2 hg => ?_)
        obtain ⟨g1, g2, g3⟩ := hg
        have f1' : μ' m 0 = t.1 := r3.1.1
        rw [f1'] at g1
        have g4 : MoAt μ2 m t g n := r3.kp (fun i hi => g2 i (by omega)) (fun q q0 q1 => g3 q (by omega) (by omega) (by omega))
        have g5 : Out μ μ2 m 20 := fun q hq => (g3 q (by omega) (by omega) (by omega)).trans (r4 q hq)
        have g6 : FolR μ2 m (Rg t SA) := by unfold FolR; rw [g3 _ (by omega) (by omega) (by omega), g3 _ (by omega) (by omega) (by omega)]; exact r5
        have f2 : μ2 m 0 = t.1 := g4.1.1
        refine v_iload_n aX8_open_43 rfl ?_
        refine v_if_ne 54 rfl aX8_open_44 (by omega) (fun c44 => ?_) (fun c44 => ?_)
        · --
          refine v_aload_n aX8_open_54 rfl ?_
          refine v_gi 13 rfl aX8_open_55 fX8_118 hM.p rfl rfl ?_
          refine v_ireturn aX8_open_58 rfl ⟨Nat.le_refl _, Nat.le_refl _⟩ ?_
          refine ⟨_, rfl, rfl, ?_, g4, g5⟩
          unfold sp_open
          rw [if_pos (by omega), if_neg (by omega), if_pos (b2i_t c33), if_neg (by omega), g1.1]
        · --
          refine v_aload_n aX8_open_47 rfl ?_
          refine v_cVi (c_X8_openPairs hM g6 (by omega)) aX8_open_48 mX8_openPairs vX8_openPairs lX8_124 hM.p rfl rfl rfl rfl rfl (Nat.le_of_ble_eq_true rfl) ⟨Nat.le_of_ble_eq_true rfl, Nat.le_of_ble_eq_true rfl⟩ (Nat.le_of_ble_eq_true rfl) ?_
          refine v_goto 58 rfl aX8_open_51 ?_
          refine v_ireturn aX8_open_58 rfl ⟨Nat.le_refl _, Nat.le_refl _⟩ ?_
          refine ⟨_, rfl, rfl, ?_, g4, g5⟩
          unfold sp_open
          rw [if_pos (by omega), if_neg (by omega), if_pos (b2i_t c33), if_pos (by omega), f2]
      · --
        refine v_bipush (by decide) aX8_open_36 ?_
        refine v_ireturn aX8_open_38 rfl ⟨Nat.le_refl _, Nat.le_refl _⟩ ?_
        refine ⟨_, rfl, rfl, ?_, r3, r4⟩
        unfold sp_open
        rw [if_pos (by omega), if_neg (by omega), if_neg (fun q => c33 (b2i_1.mp q))]
    · --
      refine v_iload_n aX8_open_22 rfl ?_
      refine v_if_eq_b 30 rfl aX8_open_23 (fun c23 => ?_) (fun c23 => ?_)
      · --
        refine v_iconst aX8_open_30 ?_
        refine v_ireturn aX8_open_31 rfl ⟨Nat.le_refl _, Nat.le_refl _⟩ ?_
        refine ⟨_, rfl, rfl, ?_, r3, r4⟩
        unfold sp_open
        rw [if_pos (by omega), if_pos (by omega), b2i_f c23]
      · --
        refine v_iconst aX8_open_26 ?_
        refine v_goto 31 rfl aX8_open_27 ?_
        refine v_ireturn aX8_open_31 rfl ⟨Nat.le_refl _, Nat.le_refl _⟩ ?_
        refine ⟨_, rfl, rfl, ?_, r3, r4⟩
        unfold sp_open
        rw [if_pos (by omega), if_pos (by omega), b2i_t c23]
  · --
    refine v_bipush (by decide) aX8_open_9 ?_
    refine v_ireturn aX8_open_11 rfl ⟨Nat.le_refl _, Nat.le_refl _⟩ ?_
    rw [show sp_open t w = -2 from if_neg (by omega)]
    exact ⟨_, rfl, rfl, rfl, h, Out.rf⟩
set_option maxHeartbeats 4000000 in
set_option maxRecDepth 100000 in
theorem c_X8_rank {s e : Int} (hM : ModS S m) (h : MoAt μ m t g n) (hok : StOk t B) (hs : (-2147483648 ≤ s ∧ s < 2147483648)) (he : (-2147483648 ≤ e ∧ e < 2147483648)) : Ct l G cX8_rank (yX8_rank, 3, (some FieldType.int), 3, 0, 0) [.ref m, vi s, vi e] S μ (Re S (fun z μ' => z = sp_rank t s e ∧ MoAt μ' m t g n ∧ Out μ μ' m 20)) := by
  obtain ⟨o1, o2, o3, o4, o5⟩ := id hok
  have f0 : μ m 0 = t.1 := h.1.1
  refine Ct.of (by decide) rfl (by simp [vi, Value.category]) (Nat.le_of_ble_eq_true rfl) ?_
  refine v_aload_n aX8_rank_0 rfl ?_
  refine v_iload_n aX8_rank_1 rfl ?_
  refine v_cVi (c_X8_isSack hM (by omega) (by omega)) aX8_rank_2 mX8_isSack vX8_isSack lX8_89 hM.p rfl rfl rfl rfl rfl (Nat.le_of_ble_eq_true rfl) ⟨Nat.le_of_ble_eq_true rfl, Nat.le_of_ble_eq_true rfl⟩ (Nat.le_of_ble_eq_true rfl) ?_
  refine v_if_ne_b 10 rfl aX8_rank_5 (fun c5 => ?_) (fun c5 => ?_)
  · --
    refine v_iload_n aX8_rank_10 rfl ?_
    refine v_iconst aX8_rank_11 ?_
    refine v_iconst aX8_rank_12 ?_
    refine v_cSi (c_X8_in (by omega) (by decide) (by decide)) aX8_rank_13 mX8_in sX8_in lX8_79 rfl rfl (Nat.le_of_ble_eq_true rfl) ⟨Nat.le_of_ble_eq_true rfl, Nat.le_of_ble_eq_true rfl⟩ (Nat.le_of_ble_eq_true rfl) ?_
    refine v_if_ne_b 22 rfl aX8_rank_16 (fun c16 => ?_) (fun c16 => ?_)
    · --
      refine v_aload_n aX8_rank_22 rfl ?_
      refine v_cVe (c_X8_followAll hM h.1 hok) aX8_rank_23 mX8_followAll vX8_followAll lX8_111 hM.p rfl rfl rfl rfl rfl (Nat.le_of_ble_eq_true rfl) ⟨Nat.le_of_ble_eq_true rfl, Nat.le_of_ble_eq_true rfl⟩ (Nat.le_of_ble_eq_true rfl) (fun z μ' hz => ?_)
      obtain ⟨rfl, r1, r2⟩ := hz
      have r3 : MoAt μ' m t g n := h.kp (fun i _ => by rw [r2 m (by omega) (by omega)]) (fun q q0 q1 => r2 q (by omega) (by omega))
      have r4 : Out μ μ' m 20 := fun q hq => r2 q (by omega) (by omega)
      have f1 : μ' m 0 = t.1 := r3.1.1
      refine v_if_ne_b 32 rfl aX8_rank_26 (fun c26 => ?_) (fun c26 => ?_)
      · --
        have r5 := r1.toR c26
        refine v_aload_n aX8_rank_32 rfl ?_
        refine v_cVw (c_X8_layGroups hM r5 RT_Rg (by omega)) aX8_rank_33 mX8_layGroups vX8_layGroups lX8_121 hM.p rfl rfl rfl rfl rfl (Nat.le_of_ble_eq_true rfl) ⟨Nat.le_of_ble_eq_true rfl, Nat.le_of_ble_eq_true rfl⟩ (Nat.le_of_ble_eq_true rfl) (fun μ2 hg => ?_)
        obtain ⟨g1, g2, g3⟩ := hg
        have f1' : μ' m 0 = t.1 := r3.1.1
        rw [f1'] at g1
        have g4 : MoAt μ2 m t g n := r3.kp (fun i hi => g2 i (by omega)) (fun q q0 q1 => g3 q (by omega) (by omega) (by omega))
        have g5 : Out μ μ2 m 20 := fun q hq => (g3 q (by omega) (by omega) (by omega)).trans (r4 q hq)
        have g6 : FolR μ2 m (Rg t SA) := by unfold FolR; rw [g3 _ (by omega) (by omega) (by omega), g3 _ (by omega) (by omega) (by omega)]; exact r5
        have f2 : μ2 m 0 = t.1 := g4.1.1
        refine v_aload_n aX8_rank_36 rfl ?_
        refine v_iload_n aX8_rank_37 rfl ?_
        refine v_iload_n aX8_rank_38 rfl ?_
        refine v_cVi (c_X8_rankOf hM g6 g1 (by omega) (by omega) (by omega)) aX8_rank_39 mX8_rankOf vX8_rankOf lX8_127 hM.p rfl rfl rfl rfl rfl (Nat.le_of_ble_eq_true rfl) ⟨Nat.le_of_ble_eq_true rfl, Nat.le_of_ble_eq_true rfl⟩ (Nat.le_of_ble_eq_true rfl) ?_
        refine v_ireturn aX8_rank_42 rfl ⟨Nat.le_refl _, Nat.le_refl _⟩ ?_
        refine ⟨_, rfl, rfl, ?_, g4, g5⟩
        unfold sp_rank
        rw [if_pos (by omega), if_pos (by omega), if_pos (b2i_t c26)]
      · --
        refine v_bipush (by decide) aX8_rank_29 ?_
        refine v_ireturn aX8_rank_31 rfl ⟨Nat.le_refl _, Nat.le_refl _⟩ ?_
        unfold sp_rank
        rw [if_pos (by omega), if_pos (by omega), if_neg (fun q => c26 (b2i_1.mp q))]
        exact ⟨_, rfl, rfl, rfl, r3, r4⟩
    · --
      refine v_bipush (by decide) aX8_rank_19 ?_
      refine v_ireturn aX8_rank_21 rfl ⟨Nat.le_refl _, Nat.le_refl _⟩ ?_
      unfold sp_rank
      rw [if_pos (by omega), if_neg (by omega)]
      exact ⟨_, rfl, rfl, rfl, h, Out.rf⟩
  · --
    refine v_iconst aX8_rank_8 ?_
    refine v_ireturn aX8_rank_9 rfl ⟨Nat.le_refl _, Nat.le_refl _⟩ ?_
    rw [show sp_rank t s e = -1 from if_neg (by omega)]
    exact ⟨_, rfl, rfl, rfl, h, Out.rf⟩
set_option maxHeartbeats 4000000 in
set_option maxRecDepth 100000 in
theorem li_X8_pays {s e : Int} {P : Pst} (hM : ModS S m) (hf : FolR μ m R) (hg : GrAt μ m R t.1) (h : MoAt μ m t g n) (hok : StOk t B) (hRT : RT R) (hsr : (-2147483648 ≤ s ∧ s < 2147483648)) (he : 0 ≤ e ∧ e ≤ 1) (hh : P (some (vi (sumN (fun j => if s = -1 ∨ s = j then pay1 t.2.2.2.2.2.2.2.1 R t.1 j e else 0) t.1.toNat))) S μ) : ∀ (N : Nat) (i z : Int), (0 ≤ i ∧ i ≤ t.1) → t.1 - i < N → z = sumN (fun j => if s = -1 ∨ s = j then pay1 t.2.2.2.2.2.2.2.1 R t.1 j e else 0) i.toNat → V l G cX8_pays (yX8_pays, 5, (some FieldType.int), 3, 0, 0) P (0, 0) S μ 46 [.ref m, vi s, vi e, vi z, vi i] [] := by
  intro N
  induction N with
  | zero => intros; omega
  | succ N ih =>
    intro i z h0 h1 hz
    obtain ⟨o1, o2, o3, o4, o5⟩ := id hok
    have f0 : μ m 0 = t.1 := h.1.1
    refine v_iload aX8_pays_46 rfl ?_
    refine v_aload_n aX8_pays_48 rfl ?_
    refine v_gi 0 rfl aX8_pays_49 fX8_7 hM.p rfl rfl ?_
    rw [f0]
    refine v_icmp_ge 86 rfl aX8_pays_52 (by omega) (by omega) (fun c52 => ?_) (fun c52 => ?_)
    · --
      refine v_iload_n aX8_pays_86 rfl ?_
      refine v_ireturn aX8_pays_87 rfl ⟨Nat.le_refl _, Nat.le_refl _⟩ ?_
      obtain rfl : i = t.1 := by omega
      rw [hz]
      exact hh
    · --
      refine v_iload_n aX8_pays_55 rfl ?_
      refine v_iload_n aX8_pays_56 rfl ?_
      refine v_iconst aX8_pays_57 ?_
      refine v_icmp_eq 67 rfl aX8_pays_58 (by omega) (by omega) (fun c58 => ?_) (fun c58 => ?_)
      · --
        refine v_aload_n aX8_pays_67 rfl ?_
        refine v_iload aX8_pays_68 rfl ?_
        refine v_iload_n aX8_pays_70 rfl ?_
        refine v_cVi (c_X8_paysOf hM hf hg (by omega) h.1.2.2.2.2.2.2.2.1 (fun i i0 i1 => (o5 i i0 i1).2.2.1) hRT (by omega) he) aX8_pays_71 mX8_paysOf vX8_paysOf lX8_131 hM.p rfl rfl rfl rfl rfl (Nat.le_of_ble_eq_true rfl) ⟨Nat.le_of_ble_eq_true rfl, Nat.le_of_ble_eq_true rfl⟩ (Nat.le_of_ble_eq_true rfl) ?_
        refine v_goto 78 rfl aX8_pays_74 ?_
        refine v_iadd aX8_pays_78 ?_
        refine v_istore_n aX8_pays_79 (by decide) rfl ?_
        refine v_iinc aX8_pays_80 rfl (by decide) rfl ?_
        refine v_goto 46 rfl aX8_pays_83 ?_
        refine ih (i + 1) _ (by omega) (by omega) ?_
        rw [sumN_s h0.1, hz, if_pos (Or.inl (by omega))]
      · --
        refine v_iload_n aX8_pays_61 rfl ?_
        refine v_iload aX8_pays_62 rfl ?_
        refine v_icmp_ne 77 rfl aX8_pays_64 (by omega) (by omega) (fun c64 => ?_) (fun c64 => ?_)
        · --
          refine v_iconst aX8_pays_77 ?_
          refine v_iadd aX8_pays_78 ?_
          refine v_istore_n aX8_pays_79 (by decide) rfl ?_
          refine v_iinc aX8_pays_80 rfl (by decide) rfl ?_
          refine v_goto 46 rfl aX8_pays_83 ?_
          refine ih (i + 1) _ (by omega) (by omega) ?_
          rw [sumN_s h0.1, hz, if_neg (by omega)]
        · --
          refine v_aload_n aX8_pays_67 rfl ?_
          refine v_iload aX8_pays_68 rfl ?_
          refine v_iload_n aX8_pays_70 rfl ?_
          refine v_cVi (c_X8_paysOf hM hf hg (by omega) h.1.2.2.2.2.2.2.2.1 (fun i i0 i1 => (o5 i i0 i1).2.2.1) hRT (by omega) he) aX8_pays_71 mX8_paysOf vX8_paysOf lX8_131 hM.p rfl rfl rfl rfl rfl (Nat.le_of_ble_eq_true rfl) ⟨Nat.le_of_ble_eq_true rfl, Nat.le_of_ble_eq_true rfl⟩ (Nat.le_of_ble_eq_true rfl) ?_
          refine v_goto 78 rfl aX8_pays_74 ?_
          refine v_iadd aX8_pays_78 ?_
          refine v_istore_n aX8_pays_79 (by decide) rfl ?_
          refine v_iinc aX8_pays_80 rfl (by decide) rfl ?_
          refine v_goto 46 rfl aX8_pays_83 ?_
          refine ih (i + 1) _ (by omega) (by omega) ?_
          rw [sumN_s h0.1, hz, if_pos (Or.inr (by omega))]
set_option maxHeartbeats 4000000 in
set_option maxRecDepth 100000 in
theorem c_X8_pays {s e : Int} (hM : ModS S m) (h : MoAt μ m t g n) (hok : StOk t B) (hs : (-2147483648 ≤ s ∧ s < 2147483648)) (he : (-2147483648 ≤ e ∧ e < 2147483648)) : Ct l G cX8_pays (yX8_pays, 5, (some FieldType.int), 3, 0, 0) [.ref m, vi s, vi e] S μ (Re S (fun z μ' => z = sp_pays t s e ∧ MoAt μ' m t g n ∧ Out μ μ' m 20)) := by
  obtain ⟨o1, o2, o3, o4, o5⟩ := id hok
  have f0 : μ m 0 = t.1 := h.1.1
  refine Ct.of (by decide) rfl (by simp [vi, Value.category]) (Nat.le_of_ble_eq_true rfl) ?_
  refine v_iload_n aX8_pays_0 rfl ?_
  refine v_iconst aX8_pays_1 ?_
  refine v_icmp_eq 15 rfl aX8_pays_2 (by omega) (by omega) (fun c2 => ?_) (fun c2 => ?_)
  · --
    refine v_iload_n aX8_pays_15 rfl ?_
    refine v_iconst aX8_pays_16 ?_
    refine v_iconst aX8_pays_17 ?_
    refine v_cSi (c_X8_in (by omega) (by decide) (by decide)) aX8_pays_18 mX8_in sX8_in lX8_79 rfl rfl (Nat.le_of_ble_eq_true rfl) ⟨Nat.le_of_ble_eq_true rfl, Nat.le_of_ble_eq_true rfl⟩ (Nat.le_of_ble_eq_true rfl) ?_
    refine v_if_ne_b 27 rfl aX8_pays_21 (fun c21 => ?_) (fun c21 => ?_)
    · --
      refine v_aload_n aX8_pays_27 rfl ?_
      refine v_cVe (c_X8_followAll hM h.1 hok) aX8_pays_28 mX8_followAll vX8_followAll lX8_111 hM.p rfl rfl rfl rfl rfl (Nat.le_of_ble_eq_true rfl) ⟨Nat.le_of_ble_eq_true rfl, Nat.le_of_ble_eq_true rfl⟩ (Nat.le_of_ble_eq_true rfl) (fun z μ' hz => ?_)
      obtain ⟨rfl, r1, r2⟩ := hz
      have r3 : MoAt μ' m t g n := h.kp (fun i _ => by rw [r2 m (by omega) (by omega)]) (fun q q0 q1 => r2 q (by omega) (by omega))
      have r4 : Out μ μ' m 20 := fun q hq => r2 q (by omega) (by omega)
      have f1 : μ' m 0 = t.1 := r3.1.1
      refine v_if_ne_b 37 rfl aX8_pays_31 (fun c31 => ?_) (fun c31 => ?_)
      · --
        have r5 := r1.toR c31
        refine v_aload_n aX8_pays_37 rfl ?_
        refine v_cVw (c_X8_layGroups hM r5 RT_Rg (by omega)) aX8_pays_38 mX8_layGroups vX8_layGroups lX8_121 hM.p rfl rfl rfl rfl rfl (Nat.le_of_ble_eq_true rfl) ⟨Nat.le_of_ble_eq_true rfl, Nat.le_of_ble_eq_true rfl⟩ (Nat.le_of_ble_eq_true rfl) (fun μ2 hg => ?_)
        obtain ⟨g1, g2, g3⟩ := hg
        have f1' : μ' m 0 = t.1 := r3.1.1
        rw [f1'] at g1
        have g4 : MoAt μ2 m t g n := r3.kp (fun i hi => g2 i (by omega)) (fun q q0 q1 => g3 q (by omega) (by omega) (by omega))
        have g5 : Out μ μ2 m 20 := fun q hq => (g3 q (by omega) (by omega) (by omega)).trans (r4 q hq)
        have g6 : FolR μ2 m (Rg t SA) := by unfold FolR; rw [g3 _ (by omega) (by omega) (by omega), g3 _ (by omega) (by omega) (by omega)]; exact r5
        have f2 : μ2 m 0 = t.1 := g4.1.1
        refine v_iconst aX8_pays_41 ?_
        refine v_istore_n aX8_pays_42 (by decide) rfl ?_
        refine v_iconst aX8_pays_43 ?_
        refine v_istore aX8_pays_44 (by decide) rfl ?_
        refine li_X8_pays (R := Rg t SA) hM g6 g1 g4 hok RT_Rg hs (by omega) ?_ 7 0 0 (by omega) (by omega) rfl
        refine ⟨_, rfl, rfl, ?_, g4, g5⟩
        unfold sp_pays
        rw [if_pos (by omega), if_pos (by omega), if_pos (b2i_t c31)]
        by_cases q : s = -1
        · rw [if_pos q]
          exact sumN_c _ (fun i i0 i1 => if_pos (Or.inl q))
        · rw [if_neg q, ← sum_one (f := fun j => pay1 t.2.2.2.2.2.2.2.1 (Rg t SA) t.1 j e) t.1.toNat (by omega)]
          refine sumN_c _ (fun i i0 i1 => ?_)
          by_cases q2 : s = i
          · rw [if_pos (Or.inr q2), if_pos q2]
          · rw [if_neg (fun z => z.elim q q2), if_neg q2]
      · --
        refine v_bipush (by decide) aX8_pays_34 ?_
        refine v_ireturn aX8_pays_36 rfl ⟨Nat.le_refl _, Nat.le_refl _⟩ ?_
        unfold sp_pays
        rw [if_pos (by omega), if_pos (by omega), if_neg (fun q => c31 (b2i_1.mp q))]
        exact ⟨_, rfl, rfl, rfl, r3, r4⟩
    · --
      refine v_bipush (by decide) aX8_pays_24 ?_
      refine v_ireturn aX8_pays_26 rfl ⟨Nat.le_refl _, Nat.le_refl _⟩ ?_
      unfold sp_pays
      rw [if_pos (by omega), if_neg (by omega)]
      exact ⟨_, rfl, rfl, rfl, h, Out.rf⟩
  · --
    refine v_aload_n aX8_pays_5 rfl ?_
    refine v_iload_n aX8_pays_6 rfl ?_
    refine v_cVi (c_X8_isSack hM (by omega) (by omega)) aX8_pays_7 mX8_isSack vX8_isSack lX8_89 hM.p rfl rfl rfl rfl rfl (Nat.le_of_ble_eq_true rfl) ⟨Nat.le_of_ble_eq_true rfl, Nat.le_of_ble_eq_true rfl⟩ (Nat.le_of_ble_eq_true rfl) ?_
    refine v_if_ne_b 15 rfl aX8_pays_10 (fun c10 => ?_) (fun c10 => ?_)
    · --
      refine v_iload_n aX8_pays_15 rfl ?_
      refine v_iconst aX8_pays_16 ?_
      refine v_iconst aX8_pays_17 ?_
      refine v_cSi (c_X8_in (by omega) (by decide) (by decide)) aX8_pays_18 mX8_in sX8_in lX8_79 rfl rfl (Nat.le_of_ble_eq_true rfl) ⟨Nat.le_of_ble_eq_true rfl, Nat.le_of_ble_eq_true rfl⟩ (Nat.le_of_ble_eq_true rfl) ?_
      refine v_if_ne_b 27 rfl aX8_pays_21 (fun c21 => ?_) (fun c21 => ?_)
      · --
        refine v_aload_n aX8_pays_27 rfl ?_
        refine v_cVe (c_X8_followAll hM h.1 hok) aX8_pays_28 mX8_followAll vX8_followAll lX8_111 hM.p rfl rfl rfl rfl rfl (Nat.le_of_ble_eq_true rfl) ⟨Nat.le_of_ble_eq_true rfl, Nat.le_of_ble_eq_true rfl⟩ (Nat.le_of_ble_eq_true rfl) (fun z μ' hz => ?_)
        obtain ⟨rfl, r1, r2⟩ := hz
        have r3 : MoAt μ' m t g n := h.kp (fun i _ => by rw [r2 m (by omega) (by omega)]) (fun q q0 q1 => r2 q (by omega) (by omega))
        have r4 : Out μ μ' m 20 := fun q hq => r2 q (by omega) (by omega)
        have f1 : μ' m 0 = t.1 := r3.1.1
        refine v_if_ne_b 37 rfl aX8_pays_31 (fun c31 => ?_) (fun c31 => ?_)
        · --
          have r5 := r1.toR c31
          refine v_aload_n aX8_pays_37 rfl ?_
          refine v_cVw (c_X8_layGroups hM r5 RT_Rg (by omega)) aX8_pays_38 mX8_layGroups vX8_layGroups lX8_121 hM.p rfl rfl rfl rfl rfl (Nat.le_of_ble_eq_true rfl) ⟨Nat.le_of_ble_eq_true rfl, Nat.le_of_ble_eq_true rfl⟩ (Nat.le_of_ble_eq_true rfl) (fun μ2 hg => ?_)
          obtain ⟨g1, g2, g3⟩ := hg
          have f1' : μ' m 0 = t.1 := r3.1.1
          rw [f1'] at g1
          have g4 : MoAt μ2 m t g n := r3.kp (fun i hi => g2 i (by omega)) (fun q q0 q1 => g3 q (by omega) (by omega) (by omega))
          have g5 : Out μ μ2 m 20 := fun q hq => (g3 q (by omega) (by omega) (by omega)).trans (r4 q hq)
          have g6 : FolR μ2 m (Rg t SA) := by unfold FolR; rw [g3 _ (by omega) (by omega) (by omega), g3 _ (by omega) (by omega) (by omega)]; exact r5
          have f2 : μ2 m 0 = t.1 := g4.1.1
          refine v_iconst aX8_pays_41 ?_
          refine v_istore_n aX8_pays_42 (by decide) rfl ?_
          refine v_iconst aX8_pays_43 ?_
          refine v_istore aX8_pays_44 (by decide) rfl ?_
          refine li_X8_pays (R := Rg t SA) hM g6 g1 g4 hok RT_Rg hs (by omega) ?_ 7 0 0 (by omega) (by omega) rfl
          refine ⟨_, rfl, rfl, ?_, g4, g5⟩
          unfold sp_pays
          rw [if_pos (by omega), if_pos (by omega), if_pos (b2i_t c31)]
          by_cases q : s = -1
          · rw [if_pos q]
            exact sumN_c _ (fun i i0 i1 => if_pos (Or.inl q))
          · rw [if_neg q, ← sum_one (f := fun j => pay1 t.2.2.2.2.2.2.2.1 (Rg t SA) t.1 j e) t.1.toNat (by omega)]
            refine sumN_c _ (fun i i0 i1 => ?_)
            by_cases q2 : s = i
            · rw [if_pos (Or.inr q2), if_pos q2]
            · rw [if_neg (fun z => z.elim q q2), if_neg q2]
        · --
          refine v_bipush (by decide) aX8_pays_34 ?_
          refine v_ireturn aX8_pays_36 rfl ⟨Nat.le_refl _, Nat.le_refl _⟩ ?_
          unfold sp_pays
          rw [if_pos (by omega), if_pos (by omega), if_neg (fun q => c31 (b2i_1.mp q))]
          exact ⟨_, rfl, rfl, rfl, r3, r4⟩
      · --
        refine v_bipush (by decide) aX8_pays_24 ?_
        refine v_ireturn aX8_pays_26 rfl ⟨Nat.le_refl _, Nat.le_refl _⟩ ?_
        unfold sp_pays
        rw [if_pos (by omega), if_neg (by omega)]
        exact ⟨_, rfl, rfl, rfl, h, Out.rf⟩
    · --
      refine v_iconst aX8_pays_13 ?_
      refine v_ireturn aX8_pays_14 rfl ⟨Nat.le_refl _, Nat.le_refl _⟩ ?_
      rw [show sp_pays t s e = -1 from if_neg (by omega)]
      exact ⟨_, rfl, rfl, rfl, h, Out.rf⟩
end MG2
