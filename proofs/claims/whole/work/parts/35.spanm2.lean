/-! spans: the model -/
def Tm (μ : Mu) (m : Nat) : Spn := (μ (m + 17), μ (m + 18))
theorem fold_fl : ∀ (es : List Edg) (X : Spn) (fl : Int), es.foldl stf (X, fl) = (rd es X, if (es.foldl stf (X, 0)).2 = 1 then 1 else fl)
  | [], X, fl => rfl
  | e :: es, X, fl => by
    have h1 := fold_fl es (stp X e) (stf (X, fl) e).2
    have h2 := fold_fl es (stp X e) (stf (X, 0) e).2
    show es.foldl stf ((stf (X, fl) e).1, (stf (X, fl) e).2) = (rd es (stp X e), if (es.foldl stf ((stf (X, 0) e).1, (stf (X, 0) e).2)).2 = 1 then 1 else fl)
    show es.foldl stf (stp X e, (stf (X, fl) e).2) = (rd es (stp X e), if (es.foldl stf (stp X e, (stf (X, 0) e).2)).2 = 1 then 1 else fl)
    rw [h1, h2]
    refine Prod.ext rfl ?_
    dsimp only
    by_cases q : (es.foldl stf (stp X e, 0)).2 = 1
    · rw [if_pos q, if_pos q, if_pos rfl]
    · rw [if_neg q, if_neg q]
      unfold stf
      dsimp only
      by_cases q1 : X.1 e.1 < X.1 e.2.1 + e.2.2
      · rw [if_pos q1, if_pos q1, if_pos rfl]
      · rw [if_neg q1, if_neg q1]
        by_cases q2 : X.2 e.1 - e.2.2 < X.2 e.2.1
        · rw [if_pos q2, if_pos q2, if_pos rfl]
        · rw [if_neg q2, if_neg q2, if_neg (by decide)]
theorem fold_01 : ∀ (es : List Edg) (X : Spn) (fl : Int), (fl = 0 ∨ fl = 1) → (es.foldl stf (X, fl)).2 = 0 ∨ (es.foldl stf (X, fl)).2 = 1
  | [], _, _, h => h
  | e :: es, X, fl, h => fold_01 es _ _ (by split; exact Or.inr rfl; split; exact Or.inr rfl; exact h)
def Lt6 (es : List Edg) (n : Int) : Prop := ∀ e, e ∈ es → e.1 < n ∧ e.2.1 < n
theorem rd_out {n v : Int} (hv : n ≤ v) : ∀ (es : List Edg) (X : Spn), Lt6 es n → (rd es X).1 v = X.1 v ∧ (rd es X).2 v = X.2 v
  | [], _, _ => ⟨rfl, rfl⟩
  | e :: es, X, h => by
    have := rd_out hv es (stp X e) (fun e' h' => h e' (List.mem_cons_of_mem _ h'))
    have he := h e (List.mem_cons_self ..)
    show (rd es (stp X e)).1 v = _ ∧ (rd es (stp X e)).2 v = _
    rw [this.1, this.2]
    unfold stp kaL kaH
    dsimp only
    refine ⟨?_, ?_⟩
    · split
      · exact iup_ne (by omega)
      · rfl
    · split
      · exact iup_ne (by omega)
      · rfl
theorem edsS_lt {t : BSt} {B : Int} (hok : StOk t B) : ∀ k : Nat, (k : Int) ≤ t.2.1 → Lt6 (edsS t k) t.1
  | 0, _ => fun _ h => absurd h (List.not_mem_nil)
  | k + 1, hk => by
    have h := hok.2.2.2.1 (k : Int) (by omega) (by omega)
    intro e he
    rcases List.mem_append.mp he with q | q
    · exact edsS_lt hok k (by omega) e q
    · unfold edgS at q
      rcases List.mem_append.mp q with q | q
      · split at q
        · exact absurd q (List.not_mem_nil)
        · rw [List.mem_singleton] at q
          subst q
          exact ⟨h.1.2, h.2.1.2⟩
      · split at q
        · exact absurd q (List.not_mem_nil)
        · rw [List.mem_singleton] at q
          subst q
          exact ⟨h.2.1.2, h.1.2⟩
theorem spX_out {t : BSt} {B : Int} (hok : StOk t B) {v : Int} (hv : t.1 ≤ v) : ∀ r, (spX t r).1 v = t.2.2.2.2.2.1 v ∧ (spX t r).2 v = t.2.2.2.2.2.2.1 v
  | 0 => ⟨rfl, rfl⟩
  | r + 1 => by
    have h := rd_out hv (edsS t t.2.1.toNat) (spX t r) (edsS_lt hok _ (by have := hok.2.1; omega))
    exact ⟨h.1.trans (spX_out hok hv r).1, h.2.trans (spX_out hok hv r).2⟩
theorem fit6 {t : BSt} {B : Int} (hok : StOk t B) {r : Nat} (h : FitX t (spX t r)) : ∀ v : Int, 0 ≤ v → v < 6 → (spX t r).1 v ≤ (spX t r).2 v := fun v v0 v1 => by
  by_cases q : v < t.1
  · exact h v v0 q
  · rw [(spX_out hok (by omega) r).1, (spX_out hok (by omega) r).2]
    exact (hok.2.2.2.2 v v0 v1).2.1.2.1
theorem fit_dm {t : BSt} {B : Int} (hok : StOk t B) {r : Nat} (h : FitX t (spX t r)) : 0 ≤ Dm (spX t r) := by
  have := sumN_le 6 (fun i i0 i1 => fit6 hok h i i0 i1)
  unfold Dm
  omega
theorem fit_bnd {t : BSt} {B : Int} (hok : StOk t B) {r : Nat} (h : FitX t (spX t r)) : Bnd 0 (spX t r) := fun v v0 v1 => by
  have h1 := fit6 hok h v v0 v1
  have h2 := its_mono (es := edsS t t.2.1.toNat) (X := (t.2.2.2.2.2.1, t.2.2.2.2.2.2.1)) (r := 0) r v
  rw [Nat.zero_add] at h2
  have h3 := (hok.2.2.2.2 v v0 v1).2.1
  have h4 : t.2.2.2.2.2.1 v ≤ (spX t r).1 v ∧ (spX t r).2 v ≤ t.2.2.2.2.2.2.1 v := h2
  omega
theorem no_fit {t : BSt} {r : Nat} (h : ¬ FitX t (spX t r)) : ∀ r', ¬ SpA t r' := fun r' hr => h (by
  rcases Nat.le_total r r' with q | q
  · intro v v0 v1
    have := its_mono (es := edsS t t.2.1.toNat) (X := (t.2.2.2.2.2.1, t.2.2.2.2.2.2.1)) (r := r) (r' - r) v
    rw [show r + (r' - r) = r' by omega] at this
    have h2 := hr.2 v v0 v1
    have h3 : (spX t r).1 v ≤ (spX t r').1 v ∧ (spX t r').2 v ≤ (spX t r).2 v := this
    omega
  · have := its_fix hr.1 (r - r')
    rw [show r' + (r - r') = r by omega] at this
    rw [show spX t r = spX t r' from this]
    exact hr.2)
theorem dm0 {t : BSt} {B : Int} (hok : StOk t B) : Dm (spX t 0) ≤ 5994 := by
  have h1 : sumN t.2.2.2.2.2.2.1 6 ≤ sumN (fun _ => 999) 6 := sumN_le 6 (fun i i0 i1 => (hok.2.2.2.2 i i0 i1).2.1.2.2)
  have h2 : sumN (fun _ => 0) 6 ≤ sumN t.2.2.2.2.2.1 6 := sumN_le 6 (fun i i0 i1 => (hok.2.2.2.2 i i0 i1).2.1.1)
  have h3 : sumN (fun _ => 999) 6 = 5994 := rfl
  have h4 : sumN (fun _ => 0) 6 = 0 := rfl
  show sumN t.2.2.2.2.2.2.1 6 - sumN t.2.2.2.2.2.1 6 ≤ 5994
  omega
section SPM
variable {l : Launch} {G : Glb} {S : Sh} {μ : Mu} {m : Nat} {t : BSt} {g : Int → Int} {n B : Int}
set_option maxHeartbeats 4000000 in
set_option maxRecDepth 100000 in
theorem l2_X8_press {h lt w ls fl : Int} {P : Pst} (hM : ModS S m) (hh : 0 ≤ h ∧ h < 6) (hl : 0 ≤ lt ∧ lt < 6) (hw : w ≤ 1 ∧ -4000000 ≤ w) (hls : ls = -w) (hx : ∀ v : Int, 0 ≤ v → v < 6 → -100000 ≤ μ (m + 18) v ∧ μ (m + 18) v ≤ 100000) (hfl : fl = 0 ∨ fl = 1) (hp : ∀ (μ' : Mu) (z : Int), μ' (m + 17) = μ (m + 17) → μ' (m + 18) = kaH (μ (m + 18)) h lt w → z = (if μ (m + 18) h - w < μ (m + 18) lt then 1 else fl) → (∀ q : Nat, q ≠ m + 17 → q ≠ m + 18 → μ' q = μ q) → P (some (vi z)) S μ') : V l G cX8_press (yX8_press, 5, (some FieldType.boolean), 0, 0, 0) P (0, 0) S μ 37 [.ref m, vi h, vi lt, vi ls, vi fl] [] := by
  have h1 := hx h hh.1 hh.2
  have h2 := hx lt hl.1 hl.2
  refine v_aload_n aX8_press_37 rfl ?_
  refine v_getr aX8_press_38 fX8_67 hM.p rfl rfl ?_
  refine v_iload_n aX8_press_41 rfl ?_
  refine v_iald aX8_press_42 hM.p_greatest (by omega) (by decide) ?_
  refine v_aload_n aX8_press_43 rfl ?_
  refine v_getr aX8_press_44 fX8_67 hM.p rfl rfl ?_
  refine v_iload_n aX8_press_47 rfl ?_
  refine v_iald aX8_press_48 hM.p_greatest (by omega) (by decide) ?_
  refine v_iload_n aX8_press_49 rfl ?_
  refine v_iadd aX8_press_50 ?_
  refine v_icmp_le 71 rfl aX8_press_51 (by omega) (by omega) (fun c51 => ?_) (fun c51 => ?_)
  · --
    refine v_iload aX8_press_71 rfl ?_
    refine v_zreturn aX8_press_73 rfl ⟨Nat.le_refl _, Nat.le_refl _⟩ (by first | exact Or.inl rfl | exact Or.inr rfl | exact b2i_01 | omega) ?_
    refine hp _ _ rfl ?_ ?_ (fun q q0 q1 => rfl)
    · unfold kaH; rw [if_neg (by omega)]
    · rw [if_neg (by omega)]
  · --
    refine v_aload_n aX8_press_54 rfl ?_
    refine v_getr aX8_press_55 fX8_67 hM.p rfl rfl ?_
    refine v_iload_n aX8_press_58 rfl ?_
    refine v_aload_n aX8_press_59 rfl ?_
    refine v_getr aX8_press_60 fX8_67 hM.p rfl rfl ?_
    refine v_iload_n aX8_press_63 rfl ?_
    refine v_iald aX8_press_64 hM.p_greatest (by omega) (by decide) ?_
    refine v_iload_n aX8_press_65 rfl ?_
    refine v_iadd aX8_press_66 ?_
    refine v_iast aX8_press_67 hM.p_greatest (by omega) (by decide) ?_
    refine v_iconst aX8_press_68 ?_
    refine v_istore aX8_press_69 (by decide) rfl ?_
    refine v_iload aX8_press_71 rfl ?_
    refine v_zreturn aX8_press_73 rfl ⟨Nat.le_refl _, Nat.le_refl _⟩ (by first | exact Or.inl rfl | exact Or.inr rfl | exact b2i_01 | omega) ?_
    refine hp _ _ ?_ ?_ ?_ (fun q q0 q1 => ?_)
    · rw [upd2_row (by omega)]
    · unfold kaH; rw [if_pos (by omega), upd2_iup, row_same, show μ (m + 18) h + ls = μ (m + 18) h - w by omega]
    · rw [if_pos (by omega)]
    · rw [upd2_row q1]
set_option maxHeartbeats 4000000 in
set_option maxRecDepth 100000 in
theorem c_X8_press {h lt w ls d : Int} (hM : ModS S m) (hh : 0 ≤ h ∧ h < 6) (hl : 0 ≤ lt ∧ lt < 6) (hw : w ≤ 1 ∧ -4000000 ≤ w) (hls : ls = -w) (hb : Bnd d (Tm μ m)) (hd : 0 ≤ d ∧ d ≤ 2000) : Ct l G cX8_press (yX8_press, 5, (some FieldType.boolean), 0, 0, 0) [.ref m, vi h, vi lt, vi ls] S μ (Re S (fun z μ' => (Tm μ' m, z) = stf (Tm μ m, 0) (h, lt, w) ∧ (z = 0 ∨ z = 1) ∧ Bnd (d + 1) (Tm μ' m) ∧ (∀ q : Nat, q ≠ m + 17 → q ≠ m + 18 → μ' q = μ q))) := by
  have hx : ∀ v : Int, 0 ≤ v → v < 6 → (-100000 ≤ μ (m + 17) v ∧ μ (m + 17) v ≤ 100000) ∧ (-100000 ≤ μ (m + 18) v ∧ μ (m + 18) v ≤ 100000) := fun v v0 v1 => by
    have := hb v v0 v1
    unfold Tm at this
    dsimp only at this
    omega
  have h1 := hx h hh.1 hh.2
  have h2 := hx lt hl.1 hl.2
  refine Ct.of (by decide) rfl (by simp [vi, Value.category]) (Nat.le_of_ble_eq_true rfl) ?_
  refine v_iconst aX8_press_0 ?_
  refine v_istore aX8_press_1 (by decide) rfl ?_
  refine v_aload_n aX8_press_3 rfl ?_
  refine v_getr aX8_press_4 fX8_64 hM.p rfl rfl ?_
  refine v_iload_n aX8_press_7 rfl ?_
  refine v_iald aX8_press_8 hM.p_least (by omega) (by decide) ?_
  refine v_aload_n aX8_press_9 rfl ?_
  refine v_getr aX8_press_10 fX8_64 hM.p rfl rfl ?_
  refine v_iload_n aX8_press_13 rfl ?_
  refine v_iald aX8_press_14 hM.p_least (by omega) (by decide) ?_
  refine v_iload_n aX8_press_15 rfl ?_
  refine v_isub aX8_press_16 ?_
  refine v_icmp_ge 37 rfl aX8_press_17 (by omega) (by omega) (fun c17 => ?_) (fun c17 => ?_)
  · --
    refine l2_X8_press hM hh hl hw hls (fun v v0 v1 => (hx v v0 v1).2) (Or.inl rfl) (fun μ' z e1 e2 e3 e4 => ?_)
    have key : (Tm μ' m, z) = stf (Tm μ m, 0) (h, lt, w) := by
      unfold Tm stf stp
      rw [e1, e2, e3]
      dsimp only
      unfold kaL
      rw [if_neg (show ¬ μ (m + 17) h < μ (m + 17) lt + w by omega), if_neg (show ¬ μ (m + 17) h < μ (m + 17) lt + w by omega)]
    have kb := congrArg Prod.fst key
    dsimp only at kb
    exact ⟨z, rfl, rfl, key, by rw [e3]; split; exact Or.inr rfl; first | exact Or.inl rfl | exact Or.inr rfl, by rw [kb]; exact bnd_stp hb ⟨hh, hl, hw⟩, fun q q0 q1 => e4 q q0 q1⟩
  · --
    refine v_aload_n aX8_press_20 rfl ?_
    refine v_getr aX8_press_21 fX8_64 hM.p rfl rfl ?_
    refine v_iload_n aX8_press_24 rfl ?_
    refine v_aload_n aX8_press_25 rfl ?_
    refine v_getr aX8_press_26 fX8_64 hM.p rfl rfl ?_
    refine v_iload_n aX8_press_29 rfl ?_
    refine v_iald aX8_press_30 hM.p_least (by omega) (by decide) ?_
    refine v_iload_n aX8_press_31 rfl ?_
    refine v_isub aX8_press_32 ?_
    refine v_iast aX8_press_33 hM.p_least (by omega) (by decide) ?_
    refine v_iconst aX8_press_34 ?_
    refine v_istore aX8_press_35 (by decide) rfl ?_
    refine l2_X8_press hM hh hl hw hls (fun v v0 v1 => by rw [upd2_row (by omega)]; exact (hx v v0 v1).2) (Or.inr rfl) (fun μ' z e1 e2 e3 e4 => ?_)
    have key : (Tm μ' m, z) = stf (Tm μ m, 0) (h, lt, w) := by
      unfold Tm stf stp
      rw [e1, e2, e3]
      dsimp only
      rw [upd2_row (show m + 18 ≠ m + 17 by omega), upd2_iup, row_same, show μ (m + 17) lt - ls = μ (m + 17) lt + w by omega]
      unfold kaL
      rw [if_pos (show μ (m + 17) h < μ (m + 17) lt + w by omega), if_pos (show μ (m + 17) h < μ (m + 17) lt + w by omega), ite_self]
    have kb := congrArg Prod.fst key
    dsimp only at kb
    exact ⟨z, rfl, rfl, key, by rw [e3]; split; exact Or.inr rfl; first | exact Or.inl rfl | exact Or.inr rfl, by rw [kb]; exact bnd_stp hb ⟨hh, hl, hw⟩, fun q q0 q1 => (e4 q q0 q1).trans (upd2_row q0)⟩
set_option maxHeartbeats 4000000 in
set_option maxRecDepth 100000 in
theorem li_X8_canSpan (hM : ModS S m) (hn : 0 ≤ μ m 0 ∧ μ m 0 ≤ 6) {d : Int} (hb : Bnd d (Tm μ m)) (hd : 0 ≤ d ∧ d ≤ 2000) : ∀ (N : Nat) (i z : Int), (0 ≤ i ∧ i ≤ μ m 0) → μ m 0 - i < N → z = b2i (∀ v : Int, 0 ≤ v → v < i → μ (m + 17) v ≤ μ (m + 18) v) → V l G cX8_canSpan (yX8_canSpan, 3, (some FieldType.boolean), 0, 0, 0) (Ri S (b2i (∀ v : Int, 0 ≤ v → v < μ m 0 → μ (m + 17) v ≤ μ (m + 18) v)) μ) (0, 0) S μ 4 [.ref m, vi z, vi i] [] := by
  intro N
  induction N with
  | zero => intros; omega
  | succ N ih =>
    intro i z h0 h1 hz
    have hxi := fun q => hb i h0.1 q
    refine v_iload_n aX8_canSpan_4 rfl ?_
    refine v_aload_n aX8_canSpan_5 rfl ?_
    refine v_gi 0 rfl aX8_canSpan_6 fX8_7 hM.p rfl rfl ?_
    refine v_icmp_ge 43 rfl aX8_canSpan_9 (by omega) (by omega) (fun c9 => ?_) (fun c9 => ?_)
    · --
      refine v_iload_n aX8_canSpan_43 rfl ?_
      refine v_top hz ?_
      refine v_zreturn aX8_canSpan_44 rfl ⟨Nat.le_refl _, Nat.le_refl _⟩ (by first | exact Or.inl rfl | exact Or.inr rfl | exact b2i_01 | omega) ?_
      obtain rfl : i = μ m 0 := by omega
      exact ⟨rfl, rfl, rfl⟩
    · --
      have hxi := hxi (by omega)
      unfold Tm at hxi
      dsimp only at hxi
      refine v_iload_n aX8_canSpan_12 rfl ?_
      refine v_top hz ?_
      refine v_if_eq_b 35 rfl aX8_canSpan_13 (fun c13 => ?_) (fun c13 => ?_)
      · --
        refine v_iconst aX8_canSpan_35 ?_
        refine v_istore_n aX8_canSpan_36 (by decide) rfl ?_
        refine v_iinc aX8_canSpan_37 rfl (by decide) rfl ?_
        refine v_goto 4 rfl aX8_canSpan_40 ?_
        exact ih (i + 1) _ (by omega) (by omega) (b2i_f (fun q => c13 (fun v v0 v1 => q v v0 (by omega)))).symm
      · --
        refine v_aload_n aX8_canSpan_16 rfl ?_
        refine v_getr aX8_canSpan_17 fX8_64 hM.p rfl rfl ?_
        refine v_iload_n aX8_canSpan_20 rfl ?_
        refine v_iald aX8_canSpan_21 hM.p_least (by omega) (by decide) ?_
        refine v_aload_n aX8_canSpan_22 rfl ?_
        refine v_getr aX8_canSpan_23 fX8_67 hM.p rfl rfl ?_
        refine v_iload_n aX8_canSpan_26 rfl ?_
        refine v_iald aX8_canSpan_27 hM.p_greatest (by omega) (by decide) ?_
        refine v_icmp_gt 35 rfl aX8_canSpan_28 (by omega) (by omega) (fun c28 => ?_) (fun c28 => ?_)
        · --
          refine v_iconst aX8_canSpan_35 ?_
          refine v_istore_n aX8_canSpan_36 (by decide) rfl ?_
          refine v_iinc aX8_canSpan_37 rfl (by decide) rfl ?_
          refine v_goto 4 rfl aX8_canSpan_40 ?_
          exact ih (i + 1) _ (by omega) (by omega) (b2i_f (fun q => absurd (q i h0.1 (by omega)) (by omega))).symm
        · --
          refine v_iconst aX8_canSpan_31 ?_
          refine v_goto 36 rfl aX8_canSpan_32 ?_
          refine v_istore_n aX8_canSpan_36 (by decide) rfl ?_
          refine v_iinc aX8_canSpan_37 rfl (by decide) rfl ?_
          refine v_goto 4 rfl aX8_canSpan_40 ?_
          refine ih (i + 1) _ (by omega) (by omega) (b2i_t (fun v v0 v1 => ?_)).symm
          by_cases e : v = i
          · rw [e]; omega
          · exact c13 v v0 (by omega)
set_option maxHeartbeats 4000000 in
set_option maxRecDepth 100000 in
theorem c_X8_canSpan (hM : ModS S m) (hn : 0 ≤ μ m 0 ∧ μ m 0 ≤ 6) {d : Int} (hb : Bnd d (Tm μ m)) (hd : 0 ≤ d ∧ d ≤ 2000) : Ct l G cX8_canSpan (yX8_canSpan, 3, (some FieldType.boolean), 0, 0, 0) [.ref m] S μ (Ri S (b2i (∀ v : Int, 0 ≤ v → v < μ m 0 → μ (m + 17) v ≤ μ (m + 18) v)) μ) := by
  refine Ct.of (by decide) rfl (by simp [vi, Value.category]) (Nat.le_of_ble_eq_true rfl) ?_
  refine v_iconst aX8_canSpan_0 ?_
  refine v_istore_n aX8_canSpan_1 (by decide) rfl ?_
  refine v_iconst aX8_canSpan_2 ?_
  refine v_istore_n aX8_canSpan_3 (by decide) rfl ?_
  exact li_X8_canSpan hM hn hb hd 7 0 1 (by omega) (by omega) (b2i_t (fun v v0 v1 => absurd v0 (by omega))).symm
set_option maxHeartbeats 4000000 in
set_option maxRecDepth 100000 in
theorem fst_X8_laySpans {μ : Mu} {mo i s u hw on tw d : Int} {P : Pst} (hM : ModS S m) (hs : 0 ≤ s ∧ s < 6) (hu : 0 ≤ u ∧ u < 6) (hhw : 0 ≤ hw ∧ hw ≤ 2) (hon : 0 ≤ on ∧ on ≤ 2000000) (htw : 0 ≤ tw ∧ tw ≤ 2000000) (hd : 0 ≤ d ∧ d ≤ 1000) (hb : Bnd d (Tm μ m)) (hh : ∀ (z : Int) (μ' : Mu), (Tm μ' m, z) = List.foldl stf (Tm μ m, 0) (if hw = 2 then [] else [(s, u, (if hw = 0 then 0 else 1) - tw)]) → (z = 0 ∨ z = 1) → Bnd (d + 1) (Tm μ' m) → (∀ q : Nat, q ≠ m + 17 → q ≠ m + 18 → μ' q = μ q) → V l G cX8_laySpans (yX8_laySpans, 10, (some FieldType.boolean), 1, 0, 0) P (0, 0) S μ' 167 [.ref m, vi mo, vi i, vi s, vi u, vi hw, vi on, vi tw, vi z] []) : V l G cX8_laySpans (yX8_laySpans, 10, (some FieldType.boolean), 1, 0, 0) P (0, 0) S μ 130 [.ref m, vi mo, vi i, vi s, vi u, vi hw, vi on, vi tw] [] := by
  refine v_iload aX8_laySpans_130 rfl ?_
  refine v_iconst aX8_laySpans_132 ?_
  refine v_icmp_eq 164 rfl aX8_laySpans_133 (by omega) (by omega) (fun c133 => ?_) (fun c133 => ?_)
  · --
    refine v_iconst aX8_laySpans_164 ?_
    refine v_istore aX8_laySpans_165 (by decide) rfl ?_
    exact hh 0 μ (by rw [if_pos c133]; rfl) (Or.inl rfl) (hb.mono (by omega)) (fun q q0 q1 => rfl)
  · --
    refine v_aload_n aX8_laySpans_136 rfl ?_
    refine v_iload_n aX8_laySpans_137 rfl ?_
    refine v_iload aX8_laySpans_138 rfl ?_
    refine v_iload aX8_laySpans_140 rfl ?_
    refine v_iload aX8_laySpans_142 rfl ?_
    refine v_iconst aX8_laySpans_144 ?_
    refine v_icmp_ne 152 rfl aX8_laySpans_145 (by omega) (by omega) (fun c145 => ?_) (fun c145 => ?_)
    · --
      refine v_iconst aX8_laySpans_152 ?_
      refine v_isub aX8_laySpans_153 ?_
      refine v_cVe (c_X8_press hM hs hu (w := (if hw = 0 then 0 else 1) - tw) (by split <;> omega) (by split <;> omega) hb (by omega)) aX8_laySpans_154 mX8_press vX8_press lX8_174 hM.p rfl rfl rfl rfl rfl (Nat.le_of_ble_eq_true rfl) ⟨Nat.le_of_ble_eq_true rfl, Nat.le_of_ble_eq_true rfl⟩ (Nat.le_of_ble_eq_true rfl) (fun z μ' ⟨k1, k2, k3, k4⟩ => ?_)
      refine v_if_eq 164 rfl aX8_laySpans_157 (by omega) (fun c157 => ?_) (fun c157 => ?_)
      · --
        refine v_iconst aX8_laySpans_164 ?_
        refine v_istore aX8_laySpans_165 (by decide) rfl ?_
        rw [c157] at k1
        exact hh 0 μ' (by rw [if_neg c133]; exact k1) (Or.inl rfl) k3 k4
      · --
        refine v_iconst aX8_laySpans_160 ?_
        refine v_goto 165 rfl aX8_laySpans_161 ?_
        refine v_istore aX8_laySpans_165 (by decide) rfl ?_
        rw [show z = 1 by omega] at k1
        exact hh 1 μ' (by rw [if_neg c133]; exact k1) (Or.inr rfl) k3 k4
    · --
      refine v_iconst aX8_laySpans_148 ?_
      refine v_goto 153 rfl aX8_laySpans_149 ?_
      refine v_isub aX8_laySpans_153 ?_
      refine v_cVe (c_X8_press hM hs hu (w := (if hw = 0 then 0 else 1) - tw) (by split <;> omega) (by split <;> omega) hb (by omega)) aX8_laySpans_154 mX8_press vX8_press lX8_174 hM.p rfl rfl rfl rfl rfl (Nat.le_of_ble_eq_true rfl) ⟨Nat.le_of_ble_eq_true rfl, Nat.le_of_ble_eq_true rfl⟩ (Nat.le_of_ble_eq_true rfl) (fun z μ' ⟨k1, k2, k3, k4⟩ => ?_)
      refine v_if_eq 164 rfl aX8_laySpans_157 (by omega) (fun c157 => ?_) (fun c157 => ?_)
      · --
        refine v_iconst aX8_laySpans_164 ?_
        refine v_istore aX8_laySpans_165 (by decide) rfl ?_
        rw [c157] at k1
        exact hh 0 μ' (by rw [if_neg c133]; exact k1) (Or.inl rfl) k3 k4
      · --
        refine v_iconst aX8_laySpans_160 ?_
        refine v_goto 165 rfl aX8_laySpans_161 ?_
        refine v_istore aX8_laySpans_165 (by decide) rfl ?_
        rw [show z = 1 by omega] at k1
        exact hh 1 μ' (by rw [if_neg c133]; exact k1) (Or.inr rfl) k3 k4
set_option maxHeartbeats 4000000 in
set_option maxRecDepth 100000 in
theorem snd_X8_laySpans {z1 : Int} {μ : Mu} {mo i s u hw on tw d : Int} {P : Pst} (hM : ModS S m) (hs : 0 ≤ s ∧ s < 6) (hu : 0 ≤ u ∧ u < 6) (hhw : 0 ≤ hw ∧ hw ≤ 2) (hon : 0 ≤ on ∧ on ≤ 2000000) (htw : 0 ≤ tw ∧ tw ≤ 2000000) (hd : 0 ≤ d ∧ d ≤ 1000) (hb : Bnd d (Tm μ m)) (hh : ∀ (z : Int) (μ' : Mu), (Tm μ' m, z) = List.foldl stf (Tm μ m, 0) (if hw = 1 then [] else [(u, s, (if hw = 0 then 0 else 1) - on)]) → (z = 0 ∨ z = 1) → Bnd (d + 1) (Tm μ' m) → (∀ q : Nat, q ≠ m + 17 → q ≠ m + 18 → μ' q = μ q) → V l G cX8_laySpans (yX8_laySpans, 10, (some FieldType.boolean), 1, 0, 0) P (0, 0) S μ' 204 [.ref m, vi mo, vi i, vi s, vi u, vi hw, vi on, vi tw, vi z1, vi z] []) : V l G cX8_laySpans (yX8_laySpans, 10, (some FieldType.boolean), 1, 0, 0) P (0, 0) S μ 167 [.ref m, vi mo, vi i, vi s, vi u, vi hw, vi on, vi tw, vi z1] [] := by
  refine v_iload aX8_laySpans_167 rfl ?_
  refine v_iconst aX8_laySpans_169 ?_
  refine v_icmp_eq 201 rfl aX8_laySpans_170 (by omega) (by omega) (fun c170 => ?_) (fun c170 => ?_)
  · --
    refine v_iconst aX8_laySpans_201 ?_
    refine v_istore aX8_laySpans_202 (by decide) rfl ?_
    exact hh 0 μ (by rw [if_pos c170]; rfl) (Or.inl rfl) (hb.mono (by omega)) (fun q q0 q1 => rfl)
  · --
    refine v_aload_n aX8_laySpans_173 rfl ?_
    refine v_iload aX8_laySpans_174 rfl ?_
    refine v_iload_n aX8_laySpans_176 rfl ?_
    refine v_iload aX8_laySpans_177 rfl ?_
    refine v_iload aX8_laySpans_179 rfl ?_
    refine v_iconst aX8_laySpans_181 ?_
    refine v_icmp_ne 189 rfl aX8_laySpans_182 (by omega) (by omega) (fun c182 => ?_) (fun c182 => ?_)
    · --
      refine v_iconst aX8_laySpans_189 ?_
      refine v_isub aX8_laySpans_190 ?_
      refine v_cVe (c_X8_press hM hu hs (w := (if hw = 0 then 0 else 1) - on) (by split <;> omega) (by split <;> omega) hb (by omega)) aX8_laySpans_191 mX8_press vX8_press lX8_174 hM.p rfl rfl rfl rfl rfl (Nat.le_of_ble_eq_true rfl) ⟨Nat.le_of_ble_eq_true rfl, Nat.le_of_ble_eq_true rfl⟩ (Nat.le_of_ble_eq_true rfl) (fun z μ' ⟨k1, k2, k3, k4⟩ => ?_)
      refine v_if_eq 201 rfl aX8_laySpans_194 (by omega) (fun c194 => ?_) (fun c194 => ?_)
      · --
        refine v_iconst aX8_laySpans_201 ?_
        refine v_istore aX8_laySpans_202 (by decide) rfl ?_
        rw [c194] at k1
        exact hh 0 μ' (by rw [if_neg c170]; exact k1) (Or.inl rfl) k3 k4
      · --
        refine v_iconst aX8_laySpans_197 ?_
        refine v_goto 202 rfl aX8_laySpans_198 ?_
        refine v_istore aX8_laySpans_202 (by decide) rfl ?_
        rw [show z = 1 by omega] at k1
        exact hh 1 μ' (by rw [if_neg c170]; exact k1) (Or.inr rfl) k3 k4
    · --
      refine v_iconst aX8_laySpans_185 ?_
      refine v_goto 190 rfl aX8_laySpans_186 ?_
      refine v_isub aX8_laySpans_190 ?_
      refine v_cVe (c_X8_press hM hu hs (w := (if hw = 0 then 0 else 1) - on) (by split <;> omega) (by split <;> omega) hb (by omega)) aX8_laySpans_191 mX8_press vX8_press lX8_174 hM.p rfl rfl rfl rfl rfl (Nat.le_of_ble_eq_true rfl) ⟨Nat.le_of_ble_eq_true rfl, Nat.le_of_ble_eq_true rfl⟩ (Nat.le_of_ble_eq_true rfl) (fun z μ' ⟨k1, k2, k3, k4⟩ => ?_)
      refine v_if_eq 201 rfl aX8_laySpans_194 (by omega) (fun c194 => ?_) (fun c194 => ?_)
      · --
        refine v_iconst aX8_laySpans_201 ?_
        refine v_istore aX8_laySpans_202 (by decide) rfl ?_
        rw [c194] at k1
        exact hh 0 μ' (by rw [if_neg c170]; exact k1) (Or.inl rfl) k3 k4
      · --
        refine v_iconst aX8_laySpans_197 ?_
        refine v_goto 202 rfl aX8_laySpans_198 ?_
        refine v_istore aX8_laySpans_202 (by decide) rfl ?_
        rw [show z = 1 by omega] at k1
        exact hh 1 μ' (by rw [if_neg c170]; exact k1) (Or.inr rfl) k3 k4
set_option maxHeartbeats 4000000 in
set_option maxRecDepth 100000 in
theorem fin_X8_laySpans {z1 z2 mo i s u hw on tw : Int} {P : Pst} (hi : 0 ≤ i ∧ i < 100) (hm0 : mo = 0 ∨ mo = 1) (h1 : z1 = 0 ∨ z1 = 1) (h2 : z2 = 0 ∨ z2 = 1) (hh : ∀ (z : Int) (L : List Value), z = (if mo = 1 ∨ z1 = 1 ∨ z2 = 1 then 1 else 0) → V l G cX8_laySpans (yX8_laySpans, 10, (some FieldType.boolean), 1, 0, 0) P (0, 0) S μ 55 ([.ref m, vi z, vi (i + 1)] ++ L) []) : V l G cX8_laySpans (yX8_laySpans, 10, (some FieldType.boolean), 1, 0, 0) P (0, 0) S μ 204 [.ref m, vi mo, vi i, vi s, vi u, vi hw, vi on, vi tw, vi z1, vi z2] [] := by
  refine v_iload_n aX8_laySpans_204 rfl ?_
  refine v_if_ne 218 rfl aX8_laySpans_205 (by omega) (fun c205 => ?_) (fun c205 => ?_)
  · --
    refine v_iconst aX8_laySpans_218 ?_
    refine v_goto 223 rfl aX8_laySpans_219 ?_
    refine v_istore_n aX8_laySpans_223 (by decide) rfl ?_
    refine v_iinc aX8_laySpans_224 rfl (by decide) rfl ?_
    refine v_goto 55 rfl aX8_laySpans_227 ?_
    exact hh 1 _ (by rw [if_pos (by omega)])
  · --
    refine v_iload aX8_laySpans_208 rfl ?_
    refine v_if_ne 218 rfl aX8_laySpans_210 (by omega) (fun c210 => ?_) (fun c210 => ?_)
    · --
      refine v_iconst aX8_laySpans_218 ?_
      refine v_goto 223 rfl aX8_laySpans_219 ?_
      refine v_istore_n aX8_laySpans_223 (by decide) rfl ?_
      refine v_iinc aX8_laySpans_224 rfl (by decide) rfl ?_
      refine v_goto 55 rfl aX8_laySpans_227 ?_
      exact hh 1 _ (by rw [if_pos (by omega)])
    · --
      refine v_iload aX8_laySpans_213 rfl ?_
      refine v_if_eq 222 rfl aX8_laySpans_215 (by omega) (fun c215 => ?_) (fun c215 => ?_)
      · --
        refine v_iconst aX8_laySpans_222 ?_
        refine v_istore_n aX8_laySpans_223 (by decide) rfl ?_
        refine v_iinc aX8_laySpans_224 rfl (by decide) rfl ?_
        refine v_goto 55 rfl aX8_laySpans_227 ?_
        exact hh 0 _ (by rw [if_neg (by omega)])
      · --
        refine v_iconst aX8_laySpans_218 ?_
        refine v_goto 223 rfl aX8_laySpans_219 ?_
        refine v_istore_n aX8_laySpans_223 (by decide) rfl ?_
        refine v_iinc aX8_laySpans_224 rfl (by decide) rfl ?_
        refine v_goto 55 rfl aX8_laySpans_227 ?_
        exact hh 1 _ (by rw [if_pos (by omega)])
theorem fold_two {E1 E2 : List Edg} {X X1 X2 : Spn} {mo z1 z2 z : Int} (hmo : mo = 0 ∨ mo = 1) (h1 : (X1, z1) = E1.foldl stf (X, 0)) (h2 : (X2, z2) = E2.foldl stf (X1, 0)) (hz : z = if mo = 1 ∨ z1 = 1 ∨ z2 = 1 then 1 else 0) : (X2, z) = (E1 ++ E2).foldl stf (X, mo) := by
  rw [List.foldl_append, fold_fl E1 X mo, ← h1]
  have e1 : rd E1 X = X1 := by
    have := congrArg Prod.fst h1
    rw [stf_fst] at this
    exact this.symm
  rw [e1, fold_fl E2 X1, ← h2]
  have e2 : rd E2 X1 = X2 := by
    have := congrArg Prod.fst h2
    rw [stf_fst] at this
    exact this.symm
  rw [e2, hz]
  refine Prod.ext rfl ?_
  dsimp only
  by_cases q2 : z2 = 1
  · rw [if_pos (Or.inr (Or.inr q2)), if_pos q2]
  · rw [if_neg q2]
    by_cases q1 : z1 = 1
    · rw [if_pos (Or.inr (Or.inl q1)), if_pos q1]
    · rw [if_neg q1]
      rcases hmo with q | q
      · rw [if_neg (by omega), q]
      · rw [if_pos (Or.inl q), q]
set_option maxHeartbeats 4000000 in
set_option maxRecDepth 100000 in
theorem li_X8_laySpans {μ0 : Mu} {d : Int} {P : Pst} {X0 : Spn} (hM : ModS S m) (ht : MbAt μ0 m t) (hok : StOk t B) (hBB : B ≤ 100000) (hb : Bnd d X0) (hd : 0 ≤ d ∧ d ≤ 500) (hh : ∀ (μ : Mu) (z : Int) (L : List Value), (Tm μ m, z) = (edsS t t.2.1.toNat).foldl stf (X0, 0) → (∀ q : Nat, q ≠ m + 17 → q ≠ m + 18 → μ q = μ0 q) → V l G cX8_laySpans (yX8_laySpans, 10, (some FieldType.boolean), 1, 0, 0) P (0, 0) S μ 40 ([.ref m, vi z] ++ L) []) : ∀ (N : Nat) (i z : Int) (μ : Mu) (L : List Value), (0 ≤ i ∧ i ≤ t.2.1) → t.2.1 - i < N → (Tm μ m, z) = (edsS t i.toNat).foldl stf (X0, 0) → (∀ q : Nat, q ≠ m + 17 → q ≠ m + 18 → μ q = μ0 q) → V l G cX8_laySpans (yX8_laySpans, 10, (some FieldType.boolean), 1, 0, 0) P (0, 0) S μ 55 ([.ref m, vi z, vi i] ++ L) [] := by
  intro N
  induction N with
  | zero => intros; omega
  | succ N ih =>
    intro i z μ L h0 h1 hT hk
    obtain ⟨o1, o2, o3, o4, o5⟩ := id hok
    have t3 : μ m 3 = t.2.1 := by rw [hk _ (by omega) (by omega)]; exact ht.2.1
    have t9 : μ m 9 = t.2.2.1 := by rw [hk _ (by omega) (by omega)]; exact ht.2.2.1
    have tK : ∀ j : Int, 0 ≤ j → j < 60 → μ (m + 2) j = t.2.2.2.1 j := by rw [hk _ (by omega) (by omega)]; exact ht.2.2.2.1
    have hz01 : z = 0 ∨ z = 1 := by
      have := fold_01 (edsS t i.toNat) X0 0 (Or.inl rfl)
      rw [← hT] at this
      exact this
    have hb2 : Bnd (d + 24) (Tm μ m) := by
      have e := congrArg Prod.fst hT
      rw [stf_fst] at e
      dsimp only at e
      rw [e]
      refine (bnd_rd (edsS t i.toNat) d X0 hb (edsS_in hok hBB _ (by omega))).mono ?_
      have := len_edsS (t := t) i.toNat
      omega
    refine v_take 3 rfl ?_
    show V _ _ _ _ _ _ _ _ _ [.ref m, vi z, vi i] _
    refine v_iload_n aX8_laySpans_55 rfl ?_
    refine v_aload_n aX8_laySpans_56 rfl ?_
    refine v_gi 3 rfl aX8_laySpans_57 fX8_83 hM.p rfl rfl ?_
    rw [t3]
    refine v_icmp_ge 230 rfl aX8_laySpans_60 (by omega) (by omega) (fun c60 => ?_) (fun c60 => ?_)
    · --
      refine v_goto 40 rfl aX8_laySpans_230 ?_
      obtain rfl : i = t.2.1 := by omega
      exact hh μ z [vi _] hT hk
    · --
      have hii := o4 i h0.1 (by omega)
      have m3 : 0 ≤ t.2.2.1 * t.2.2.2.1 (5 * i + 3) ∧ t.2.2.1 * t.2.2.2.1 (5 * i + 3) ≤ 20 * t.2.2.2.1 (5 * i + 3) := ⟨Int.mul_nonneg o3.1 hii.2.2.2.2.1.1, Int.mul_le_mul_of_nonneg_right o3.2 hii.2.2.2.2.1.1⟩
      have m4 : 0 ≤ t.2.2.1 * t.2.2.2.1 (5 * i + 4) ∧ t.2.2.1 * t.2.2.2.1 (5 * i + 4) ≤ 20 * t.2.2.2.1 (5 * i + 4) := ⟨Int.mul_nonneg o3.1 hii.2.2.2.2.2.1, Int.mul_le_mul_of_nonneg_right o3.2 hii.2.2.2.2.2.1⟩
      refine v_aload_n aX8_laySpans_63 rfl ?_
      refine v_getr aX8_laySpans_64 fX8_17 hM.p rfl rfl ?_
      refine v_iconst aX8_laySpans_67 ?_
      refine v_iload_n aX8_laySpans_68 rfl ?_
      refine v_imul aX8_laySpans_69 ?_
      refine v_iald aX8_laySpans_70 hM.p_book (by omega) (by decide) ?_
      rw [tK _ (by omega) (by omega)]
      refine v_istore_n aX8_laySpans_71 (by decide) rfl ?_
      refine v_aload_n aX8_laySpans_72 rfl ?_
      refine v_getr aX8_laySpans_73 fX8_17 hM.p rfl rfl ?_
      refine v_iconst aX8_laySpans_76 ?_
      refine v_iload_n aX8_laySpans_77 rfl ?_
      refine v_imul aX8_laySpans_78 ?_
      refine v_iconst aX8_laySpans_79 ?_
      refine v_iadd aX8_laySpans_80 ?_
      refine v_iald aX8_laySpans_81 hM.p_book (by omega) (by decide) ?_
      rw [tK _ (by omega) (by omega)]
      refine v_istore aX8_laySpans_82 (by decide) rfl ?_
      refine v_aload_n aX8_laySpans_84 rfl ?_
      refine v_getr aX8_laySpans_85 fX8_17 hM.p rfl rfl ?_
      refine v_iconst aX8_laySpans_88 ?_
      refine v_iload_n aX8_laySpans_89 rfl ?_
      refine v_imul aX8_laySpans_90 ?_
      refine v_iconst aX8_laySpans_91 ?_
      refine v_iadd aX8_laySpans_92 ?_
      refine v_iald aX8_laySpans_93 hM.p_book (by omega) (by decide) ?_
      rw [tK _ (by omega) (by omega)]
      refine v_istore aX8_laySpans_94 (by decide) rfl ?_
      refine v_aload_n aX8_laySpans_96 rfl ?_
      refine v_gi 9 rfl aX8_laySpans_97 fX8_168 hM.p rfl rfl ?_
      rw [t9]
      refine v_aload_n aX8_laySpans_100 rfl ?_
      refine v_getr aX8_laySpans_101 fX8_17 hM.p rfl rfl ?_
      refine v_iconst aX8_laySpans_104 ?_
      refine v_iload_n aX8_laySpans_105 rfl ?_
      refine v_imul aX8_laySpans_106 ?_
      refine v_iconst aX8_laySpans_107 ?_
      refine v_iadd aX8_laySpans_108 ?_
      refine v_iald aX8_laySpans_109 hM.p_book (by omega) (by decide) ?_
      rw [tK _ (by omega) (by omega)]
      refine v_imul aX8_laySpans_110 ?_
      refine v_istore aX8_laySpans_111 (by decide) rfl ?_
      refine v_aload_n aX8_laySpans_113 rfl ?_
      refine v_gi 9 rfl aX8_laySpans_114 fX8_168 hM.p rfl rfl ?_
      rw [t9]
      refine v_aload_n aX8_laySpans_117 rfl ?_
      refine v_getr aX8_laySpans_118 fX8_17 hM.p rfl rfl ?_
      refine v_iconst aX8_laySpans_121 ?_
      refine v_iload_n aX8_laySpans_122 rfl ?_
      refine v_imul aX8_laySpans_123 ?_
      refine v_iconst aX8_laySpans_124 ?_
      refine v_iadd aX8_laySpans_125 ?_
      refine v_iald aX8_laySpans_126 hM.p_book (by omega) (by decide) ?_
      rw [tK _ (by omega) (by omega)]
      refine v_imul aX8_laySpans_127 ?_
      refine v_istore aX8_laySpans_128 (by decide) rfl ?_
      refine fst_X8_laySpans hM (by omega) (by omega) (by omega) (by omega) (by omega) (show 0 ≤ d + 24 ∧ d + 24 ≤ 1000 by omega) hb2 (fun z1 μ1 k1 k2 k3 k4 => ?_)
      refine snd_X8_laySpans hM (by omega) (by omega) (by omega) (by omega) (by omega) (show 0 ≤ d + 24 + 1 ∧ d + 24 + 1 ≤ 1000 by omega) k3 (fun z2 μ2 j1 j2 j3 j4 => ?_)
      refine fin_X8_laySpans (by omega) hz01 k2 j2 (fun z3 L3 hz3 => ?_)
      refine ih (i + 1) z3 μ2 L3 (by omega) (by omega) ?_ (fun q q0 q1 => (j4 q q0 q1).trans ((k4 q q0 q1).trans (hk q q0 q1)))
      have e1 := fold_two (X := Tm μ m) hz01 k1 j1 hz3
      rw [e1, hT, show (i + 1).toNat = i.toNat + 1 by omega]
      show _ = (edsS t i.toNat ++ edgS _ _ _ _ _ _).foldl stf (X0, 0)
      rw [show ((i.toNat : Nat) : Int) = i by omega]
      exact List.foldl_append.symm
theorem fit_mem {t : BSt} {B : Int} (hok : StOk t B) {X Y : Spn} (hq : Eq6p X Y) : (∀ v : Int, 0 ≤ v → v < t.1 → X.1 v ≤ X.2 v) ↔ FitX t Y := by
  have := hok.1
  constructor
  · intro h v v0 v1
    rw [← hq.1 v v0 (by omega), ← hq.2 v v0 (by omega)]; exact h v v0 v1
  · intro h v v0 v1
    rw [hq.1 v v0 (by omega), hq.2 v v0 (by omega)]; exact h v v0 v1
set_option maxHeartbeats 4000000 in
set_option maxRecDepth 100000 in
theorem ex_X8_laySpans {μ0 : Mu} (hM : ModS S m) (ht : MbAt μ0 m t) (hok : StOk t B) (hBB : B ≤ 100000) {r : Nat} {μ : Mu} (hq : Eq6p (Tm μ m) (spX t r)) (hb : Bnd 24 (spX t r)) (hS : SatP (edsS t t.2.1.toNat) (spX t r)) (hk : (∀ q : Nat, q ≠ m + 17 → q ≠ m + 18 → μ q = μ0 q)) : V l G cX8_laySpans (yX8_laySpans, 10, (some FieldType.boolean), 1, 0, 0) (Re S (fun z μ' => ((z = 1 ∧ ∃ r, SpA t r ∧ Eq6p (Tm μ' m) (spX t r)) ∨ (z = 0 ∧ ∀ r, ¬ SpA t r)) ∧ (∀ q : Nat, q ≠ m + 17 → q ≠ m + 18 → μ' q = μ0 q))) (0, 0) S μ 40 [.ref m, vi 0] [] := by
  obtain ⟨o1, o2, o3, o4, o5⟩ := id hok
  have t0 : μ m 0 = t.1 := by rw [hk _ (by omega) (by omega)]; exact ht.1
  have hfit := fit_mem hok hq
  rw [← t0] at hfit
  refine v_iload_n aX8_laySpans_40 rfl ?_
  refine v_if_eq 233 rfl aX8_laySpans_41 (by omega) (fun c41 => ?_) (fun c41 => ?_)
  · --
    refine v_aload_n aX8_laySpans_233 rfl ?_
    refine v_cVi (c_X8_canSpan hM (by omega) (hb.eq hq) (by omega)) aX8_laySpans_234 mX8_canSpan vX8_canSpan lX8_171 hM.p rfl rfl rfl rfl rfl (Nat.le_of_ble_eq_true rfl) ⟨Nat.le_of_ble_eq_true rfl, Nat.le_of_ble_eq_true rfl⟩ (Nat.le_of_ble_eq_true rfl) ?_
    refine v_zreturn aX8_laySpans_237 rfl ⟨Nat.le_refl _, Nat.le_refl _⟩ (by first | exact Or.inl rfl | exact Or.inr rfl | exact b2i_01 | omega) ?_
    refine ⟨_, rfl, rfl, ?_, hk⟩
    by_cases q : FitX t (spX t r)
    · exact Or.inl ⟨b2i_t (hfit.mpr q), r, ⟨hS, q⟩, hq⟩
    · exact Or.inr ⟨b2i_f (fun y => q (hfit.mp y)), no_fit q⟩
  · exact absurd rfl c41
set_option maxHeartbeats 4000000 in
set_option maxRecDepth 100000 in
theorem lo_X8_laySpans {μ0 : Mu} (hM : ModS S m) (ht : MbAt μ0 m t) (hok : StOk t B) (hBB : B ≤ 100000) : ∀ (N : Nat) (r : Nat) (mo : Int) (μ : Mu) (L : List Value), (0 < N ∧ Dm (spX t r) + 1 < (N : Int)) → Eq6p (Tm μ m) (spX t r) → Bnd 24 (spX t r) → (mo = 1 ∨ (mo = 0 ∧ SatP (edsS t t.2.1.toNat) (spX t r))) → (∀ q : Nat, q ≠ m + 17 → q ≠ m + 18 → μ q = μ0 q) → V l G cX8_laySpans (yX8_laySpans, 10, (some FieldType.boolean), 1, 0, 0) (Re S (fun z μ' => ((z = 1 ∧ ∃ r, SpA t r ∧ Eq6p (Tm μ' m) (spX t r)) ∨ (z = 0 ∧ ∀ r, ¬ SpA t r)) ∧ (∀ q : Nat, q ≠ m + 17 → q ≠ m + 18 → μ' q = μ0 q))) (0, 0) S μ 40 ([.ref m, vi mo] ++ L) [] := by
  intro N
  induction N with
  | zero => intros; omega
  | succ N ih =>
    intro r mo μ L hN hq hb hmo hk
    obtain ⟨o1, o2, o3, o4, o5⟩ := id hok
    have hin := edsS_in hok hBB t.2.1.toNat (by omega)
    have t0 : μ m 0 = t.1 := by rw [hk _ (by omega) (by omega)]; exact ht.1
    have hfit := fit_mem hok hq
    rw [← t0] at hfit
    have hmor : mo = 0 ∨ mo = 1 := hmo.elim Or.inr (fun z => Or.inl z.1)
    refine v_take 2 rfl ?_
    show V _ _ _ _ _ _ _ _ _ [.ref m, vi mo] _
    refine v_iload_n aX8_laySpans_40 rfl ?_
    refine v_if_eq 233 rfl aX8_laySpans_41 (by omega) (fun c41 => ?_) (fun c41 => ?_)
    · --
      refine v_aload_n aX8_laySpans_233 rfl ?_
      refine v_cVi (c_X8_canSpan hM (by omega) (hb.eq hq) (by omega)) aX8_laySpans_234 mX8_canSpan vX8_canSpan lX8_171 hM.p rfl rfl rfl rfl rfl (Nat.le_of_ble_eq_true rfl) ⟨Nat.le_of_ble_eq_true rfl, Nat.le_of_ble_eq_true rfl⟩ (Nat.le_of_ble_eq_true rfl) ?_
      refine v_zreturn aX8_laySpans_237 rfl ⟨Nat.le_refl _, Nat.le_refl _⟩ (by first | exact Or.inl rfl | exact Or.inr rfl | exact b2i_01 | omega) ?_
      refine ⟨_, rfl, rfl, ?_, hk⟩
      by_cases q : FitX t (spX t r)
      · have hS : SatP (edsS t t.2.1.toNat) (spX t r) := hmo.elim (fun y => by first | exact absurd (hfit.mpr q) c48 | (exfalso; omega)) (fun y => y.2)
        exact Or.inl ⟨b2i_t (hfit.mpr q), r, ⟨hS, q⟩, hq⟩
      · exact Or.inr ⟨b2i_f (fun y => q (hfit.mp y)), no_fit q⟩
    · --
      refine v_aload_n aX8_laySpans_44 rfl ?_
      refine v_cVi (c_X8_canSpan hM (by omega) (hb.eq hq) (by omega)) aX8_laySpans_45 mX8_canSpan vX8_canSpan lX8_171 hM.p rfl rfl rfl rfl rfl (Nat.le_of_ble_eq_true rfl) ⟨Nat.le_of_ble_eq_true rfl, Nat.le_of_ble_eq_true rfl⟩ (Nat.le_of_ble_eq_true rfl) ?_
      refine v_if_eq_b 233 rfl aX8_laySpans_48 (fun c48 => ?_) (fun c48 => ?_)
      · --
        refine v_aload_n aX8_laySpans_233 rfl ?_
        refine v_cVi (c_X8_canSpan hM (by omega) (hb.eq hq) (by omega)) aX8_laySpans_234 mX8_canSpan vX8_canSpan lX8_171 hM.p rfl rfl rfl rfl rfl (Nat.le_of_ble_eq_true rfl) ⟨Nat.le_of_ble_eq_true rfl, Nat.le_of_ble_eq_true rfl⟩ (Nat.le_of_ble_eq_true rfl) ?_
        refine v_zreturn aX8_laySpans_237 rfl ⟨Nat.le_refl _, Nat.le_refl _⟩ (by first | exact Or.inl rfl | exact Or.inr rfl | exact b2i_01 | omega) ?_
        refine ⟨_, rfl, rfl, ?_, hk⟩
        by_cases q : FitX t (spX t r)
        · have hS : SatP (edsS t t.2.1.toNat) (spX t r) := hmo.elim (fun y => by first | exact absurd (hfit.mpr q) c48 | (exfalso; omega)) (fun y => y.2)
          exact Or.inl ⟨b2i_t (hfit.mpr q), r, ⟨hS, q⟩, hq⟩
        · exact Or.inr ⟨b2i_f (fun y => q (hfit.mp y)), no_fit q⟩
      · --
        refine v_iconst aX8_laySpans_51 ?_
        refine v_istore_n aX8_laySpans_52 (by decide) rfl ?_
        refine v_iconst aX8_laySpans_53 ?_
        refine v_istore_n aX8_laySpans_54 (by decide) rfl ?_
        have hF := hfit.mp c48
        refine li_X8_laySpans (X0 := Tm μ m) (d := 0) (L := []) hM ht hok hBB ((fit_bnd hok hF).eq hq) (by omega) (fun μ2 z2 L2 e1 e2 => ?_) 13 0 0 μ (by omega) (by omega) rfl hk
        have hf := fold_mv (X0 := spX t r) (edsS t t.2.1.toNat) (Tm μ m) (spX t r) 0 hin hq (Or.inl ⟨rfl, rfl⟩)
        rw [← e1] at hf
        have hq2 : Eq6p (Tm μ2 m) (spX t (r + 1)) := hf.1
        have hm2 : Mvd z2 (spX t r) (spX t (r + 1)) := hf.2
        have hD := fit_dm hok hF
        have hl := len_edsS (t := t) t.2.1.toNat
        have hb2 : Bnd 24 (spX t (r + 1)) := (bnd_rd (edsS t t.2.1.toNat) 0 (spX t r) (fit_bnd hok hF) hin).mono (by omega)
        rcases hm2 with ⟨y1, y2⟩ | ⟨y1, y2⟩
        · have hS : SatP (edsS t t.2.1.toNat) (spX t r) := Classical.byContradiction fun y => by
            have := sat_of_fix hin y
            rw [show rd (edsS t t.2.1.toNat) (spX t r) = spX t r from y2] at this
            omega
          rw [y1]
          exact v_take 2 rfl (ex_X8_laySpans hM ht hok hBB hq2 hb2 (by rw [y2]; exact hS) e2)
        · exact ih (r + 1) z2 μ2 L2 (by omega) hq2 hb2 (Or.inl y1) e2
set_option maxHeartbeats 4000000 in
set_option maxRecDepth 100000 in
theorem l0_X8_laySpans {μ0 : Mu} {P : Pst} (hM : ModS S m) (hh : ∀ (μ : Mu) (L : List Value), Eq6 (μ (m + 17)) (μ0 (m + 5)) → Eq6 (μ (m + 18)) (μ0 (m + 6)) → (∀ q : Nat, q ≠ m + 17 → q ≠ m + 18 → μ q = μ0 q) → V l G cX8_laySpans (yX8_laySpans, 10, (some FieldType.boolean), 1, 0, 0) P (0, 0) S μ 38 ([.ref m] ++ L) []) : ∀ (N : Nat) (i : Int) (μ : Mu), (0 ≤ i ∧ i ≤ 6) → 6 - i < N → (∀ v : Int, 0 ≤ v → v < i → μ (m + 17) v = μ0 (m + 5) v ∧ μ (m + 18) v = μ0 (m + 6) v) → (∀ q : Nat, q ≠ m + 17 → q ≠ m + 18 → μ q = μ0 q) → V l G cX8_laySpans (yX8_laySpans, 10, (some FieldType.boolean), 1, 0, 0) P (0, 0) S μ 2 [.ref m, vi i] [] := by
  intro N
  induction N with
  | zero => intros; omega
  | succ N ih =>
    intro i μ h0 h1 hv hk
    have k5 : μ (m + 5) = μ0 (m + 5) := hk _ (by omega) (by omega)
    have k6 : μ (m + 6) = μ0 (m + 6) := hk _ (by omega) (by omega)
    refine v_iload_n aX8_laySpans_2 rfl ?_
    refine v_bipush (by decide) aX8_laySpans_3 ?_
    refine v_icmp_ge 38 rfl aX8_laySpans_5 (by omega) (by omega) (fun c5 => ?_) (fun c5 => ?_)
    · --
      exact hh μ [vi i] (fun v v0 v1 => (hv v v0 (by omega)).1) (fun v v0 v1 => (hv v v0 (by omega)).2) hk
    · --
      refine v_aload_n aX8_laySpans_8 rfl ?_
      refine v_getr aX8_laySpans_9 fX8_64 hM.p rfl rfl ?_
      refine v_iload_n aX8_laySpans_12 rfl ?_
      refine v_aload_n aX8_laySpans_13 rfl ?_
      refine v_getr aX8_laySpans_14 fX8_26 hM.p rfl rfl ?_
      refine v_iload_n aX8_laySpans_17 rfl ?_
      refine v_iald aX8_laySpans_18 hM.p_low (by omega) (by decide) ?_
      rw [k5]
      refine v_iast aX8_laySpans_19 hM.p_least (by omega) (by decide) ?_
      refine v_aload_n aX8_laySpans_20 rfl ?_
      refine v_getr aX8_laySpans_21 fX8_67 hM.p rfl rfl ?_
      refine v_iload_n aX8_laySpans_24 rfl ?_
      refine v_aload_n aX8_laySpans_25 rfl ?_
      refine v_getr aX8_laySpans_26 fX8_29 hM.p rfl rfl ?_
      refine v_iload_n aX8_laySpans_29 rfl ?_
      refine v_iald aX8_laySpans_30 hM.p_high (by omega) (by decide) ?_
      rw [upd2_row (show m + 6 ≠ m + 17 by omega), k6]
      refine v_iast aX8_laySpans_31 hM.p_greatest (by omega) (by decide) ?_
      refine v_iinc aX8_laySpans_32 rfl (by decide) rfl ?_
      refine v_goto 2 rfl aX8_laySpans_35 ?_
      refine ih (i + 1) _ (by omega) (by omega) (fun v v0 v1 => ?_) (fun q q0 q1 => (upd2_row q1).trans ((upd2_row q0).trans (hk q q0 q1)))
      rw [upd2_row (show m + 17 ≠ m + 18 by omega), upd2_ap, upd2_ap, upd2_row (show m + 18 ≠ m + 17 by omega)]
      by_cases e : v = i
      · subst e; rw [if_pos ⟨rfl, rfl⟩, if_pos ⟨rfl, rfl⟩]; exact ⟨rfl, rfl⟩
      · rw [if_neg (by omega), if_neg (by omega)]; exact hv v v0 (by omega)
set_option maxHeartbeats 4000000 in
set_option maxRecDepth 100000 in
theorem c_X8_laySpans {μ0 : Mu} (hM : ModS S m) (ht : MbAt μ0 m t) (hok : StOk t B) (hBB : B ≤ 100000) : Ct l G cX8_laySpans (yX8_laySpans, 10, (some FieldType.boolean), 1, 0, 0) [.ref m] S μ0 (Re S (fun z μ' => ((z = 1 ∧ ∃ r, SpA t r ∧ Eq6p (Tm μ' m) (spX t r)) ∨ (z = 0 ∧ ∀ r, ¬ SpA t r)) ∧ (∀ q : Nat, q ≠ m + 17 → q ≠ m + 18 → μ' q = μ0 q))) := by
  refine Ct.of (by decide) rfl (by simp [vi, Value.category]) (Nat.le_of_ble_eq_true rfl) ?_
  refine v_iconst aX8_laySpans_0 ?_
  refine v_istore_n aX8_laySpans_1 (by decide) rfl ?_
  refine l0_X8_laySpans hM (fun μ L e1 e2 hk => ?_) 7 0 μ0 (by omega) (by omega) (fun v v0 v1 => absurd v0 (by omega)) (fun q _ _ => rfl)
  refine v_take 1 rfl ?_
  show V _ _ _ _ _ _ _ _ _ [.ref m] _
  refine v_iconst aX8_laySpans_38 ?_
  refine v_istore_n aX8_laySpans_39 (by decide) rfl ?_
  refine lo_X8_laySpans hM ht hok hBB 6000 0 1 μ [] ⟨by decide, ?_⟩ ⟨fun v v0 v1 => (e1 v v0 v1).trans (ht.2.2.2.2.2.1 v v0 v1), fun v v0 v1 => (e2 v v0 v1).trans (ht.2.2.2.2.2.2.1 v v0 v1)⟩ ?_ (Or.inl rfl) hk
  · have := dm0 hok; omega
  · exact (spX_bnd hok hBB 0).mono (by decide)
set_option maxHeartbeats 4000000 in
set_option maxRecDepth 100000 in
theorem c_X8_span {s e : Int} (hM : ModS S m) (h : MoAt μ m t g n) (hok : StOk t B) (hBB : B ≤ 100000) (hs : (-2147483648 ≤ s ∧ s < 2147483648)) (he : (-2147483648 ≤ e ∧ e < 2147483648)) : Ct l G cX8_span (yX8_span, 3, (some FieldType.int), 3, 0, 0) [.ref m, vi s, vi e] S μ (Re S (fun z μ' => SpanQ t s e z ∧ MoAt μ' m t g n ∧ Out μ μ' m 20)) := by
  obtain ⟨o1, o2, o3, o4, o5⟩ := id hok
  have f0 : μ m 0 = t.1 := h.1.1
  refine Ct.of (by decide) rfl (by simp [vi, Value.category]) (Nat.le_of_ble_eq_true rfl) ?_
  refine v_aload_n aX8_span_0 rfl ?_
  refine v_iload_n aX8_span_1 rfl ?_
  refine v_cVi (c_X8_isSack hM (by omega) (by omega)) aX8_span_2 mX8_isSack vX8_isSack lX8_89 hM.p rfl rfl rfl rfl rfl (Nat.le_of_ble_eq_true rfl) ⟨Nat.le_of_ble_eq_true rfl, Nat.le_of_ble_eq_true rfl⟩ (Nat.le_of_ble_eq_true rfl) ?_
  refine v_if_ne_b 10 rfl aX8_span_5 (fun c5 => ?_) (fun c5 => ?_)
  · --
    refine v_iload_n aX8_span_10 rfl ?_
    refine v_iconst aX8_span_11 ?_
    refine v_iconst aX8_span_12 ?_
    refine v_cSi (c_X8_in (by omega) (by decide) (by decide)) aX8_span_13 mX8_in sX8_in lX8_79 rfl rfl (Nat.le_of_ble_eq_true rfl) ⟨Nat.le_of_ble_eq_true rfl, Nat.le_of_ble_eq_true rfl⟩ (Nat.le_of_ble_eq_true rfl) ?_
    refine v_if_ne_b 22 rfl aX8_span_16 (fun c16 => ?_) (fun c16 => ?_)
    · --
      refine v_aload_n aX8_span_22 rfl ?_
      refine v_cVe (c_X8_laySpans hM h.1 hok hBB) aX8_span_23 mX8_laySpans vX8_laySpans lX8_177 hM.p rfl rfl rfl rfl rfl (Nat.le_of_ble_eq_true rfl) ⟨Nat.le_of_ble_eq_true rfl, Nat.le_of_ble_eq_true rfl⟩ (Nat.le_of_ble_eq_true rfl) (fun z μ' ⟨hz, hk⟩ => ?_)
      have hL : MoAt μ' m t g n := h.kp (fun i _ => by rw [hk m (by omega) (by omega)]) (fun q q0 q1 => hk q (by omega) (by omega))
      have hO : Out μ μ' m 20 := fun q hq => hk q (by omega) (by omega)
      have hzr : z = 0 ∨ z = 1 := hz.elim (fun y => Or.inr y.1) (fun y => Or.inl y.1)
      refine v_if_ne 34 rfl aX8_span_26 (by omega) (fun c26 => ?_) (fun c26 => ?_)
      · --
        refine v_iload_n aX8_span_34 rfl ?_
        refine v_if_ne 47 rfl aX8_span_35 (by omega) (fun c35 => ?_) (fun c35 => ?_)
        · --
          refine v_aload_n aX8_span_47 rfl ?_
          refine v_getr aX8_span_48 fX8_67 hM.p rfl rfl ?_
          refine v_iload_n aX8_span_51 rfl ?_
          refine v_iald aX8_span_52 hM.p_greatest (by omega) (by decide) ?_
          refine v_ireturn aX8_span_53 rfl ⟨Nat.le_refl _, Nat.le_refl _⟩ ?_
          obtain ⟨r, r1, r2⟩ : ∃ r, SpA t r ∧ Eq6p (Tm μ' m) (spX t r) := hz.elim (fun y => y.2) (fun y => absurd y.1 c26)
          exact ⟨_, rfl, rfl, ⟨fun _ _ => Or.inl ⟨r, r1, by rw [if_neg c35]; exact r2.2 s (by omega) (by omega)⟩, fun _ q => absurd q (by omega), fun q => absurd q (by omega)⟩, hL, hO⟩
        · --
          refine v_aload_n aX8_span_38 rfl ?_
          refine v_getr aX8_span_39 fX8_64 hM.p rfl rfl ?_
          refine v_iload_n aX8_span_42 rfl ?_
          refine v_iald aX8_span_43 hM.p_least (by omega) (by decide) ?_
          refine v_goto 53 rfl aX8_span_44 ?_
          refine v_ireturn aX8_span_53 rfl ⟨Nat.le_refl _, Nat.le_refl _⟩ ?_
          obtain ⟨r, r1, r2⟩ : ∃ r, SpA t r ∧ Eq6p (Tm μ' m) (spX t r) := hz.elim (fun y => y.2) (fun y => absurd y.1 c26)
          exact ⟨_, rfl, rfl, ⟨fun _ _ => Or.inl ⟨r, r1, by rw [if_pos c35]; exact r2.1 s (by omega) (by omega)⟩, fun _ q => absurd q (by omega), fun q => absurd q (by omega)⟩, hL, hO⟩
      · --
        refine v_bipush (by decide) aX8_span_29 ?_
        refine v_goto 53 rfl aX8_span_31 ?_
        refine v_ireturn aX8_span_53 rfl ⟨Nat.le_refl _, Nat.le_refl _⟩ ?_
        exact ⟨_, rfl, rfl, ⟨fun _ _ => Or.inr ⟨hz.elim (fun y => absurd y.1 (by omega)) (fun y => y.2), rfl⟩, fun _ q => absurd q (by omega), fun q => absurd q (by omega)⟩, hL, hO⟩
    · --
      refine v_bipush (by decide) aX8_span_19 ?_
      refine v_ireturn aX8_span_21 rfl ⟨Nat.le_refl _, Nat.le_refl _⟩ ?_
      exact ⟨_, rfl, rfl, ⟨fun _ q => absurd q (by omega), fun _ _ => rfl, fun q => absurd q (by omega)⟩, h, Out.rf⟩
  · --
    refine v_iconst aX8_span_8 ?_
    refine v_ireturn aX8_span_9 rfl ⟨Nat.le_refl _, Nat.le_refl _⟩ ?_
    exact ⟨_, rfl, rfl, ⟨fun q => absurd q (by omega), fun q => absurd q (by omega), fun _ => rfl⟩, h, Out.rf⟩
end SPM
