/-! image and restore: the class -/
section NUL
variable {l : Launch} {G : Glb} {cc : ByteArray} {F : Frm} {P : Pst} {k : Nat × Nat} {S : Sh} {μ : Mu} {pc n : Nat} {L st : List Value}
theorem v_aloadN {q : _root_.Fin 4} (hd : At cc pc (.aload_n q) 1 n) (hv : lget L q = some .null) (h : V l G cc F P k S μ n L (.null :: st)) : V l G cc F P k S μ pc L st := by
  obtain ⟨hd, rfl⟩ := hd
  intro p e s m args below meth c H locs ls X R hf hlc hl
  exact lv_aload_nN X.1 X.2.1 hd rfl (hl.get hv) (h p e s m args below meth c H locs ls X R hf hlc hl)
theorem v_astoreN {q : _root_.Fin 4} {L' : List Value} (hd : At cc pc (.astore_n q) 1 n) (hq : q < F.2.1) (hL : lset L q .null = L') (h : V l G cc F P k S μ n L' st) : V l G cc F P k S μ pc L (.null :: st) := by
  obtain ⟨hd, rfl⟩ := hd
  subst hL
  intro p e s m args below meth c H locs ls X R hf hlc hl
  refine lv_astore_nN X.1 X.2.1 hd rfl hl.1 hq rfl (fun ls' hl' => ?_)
  exact h _ _ _ _ _ _ _ _ _ _ _ X R hf hlc (hl.set rfl hl')
end NUL
section IMG
variable {l : Launch} {G : Glb} {S : Sh} {μ : Mu} {x q : Nat} {im pl : Nat → Option Nat} {t t' : BSt} {g : Int → Int} {n B : Int}
set_option maxHeartbeats 4000000 in
set_option maxRecDepth 100000 in
theorem cO_X7_restore {i : Int} (hX : LsS S x im pl) (h : LsAt μ x t g n) (hi : (-2147483648 ≤ i ∧ i < 2147483648)) (ho : ¬ (0 ≤ i ∧ i ≤ 1)) : Ct l G cX7_restore (yX7_restore, 3, (some FieldType.int), 2, 0, 0) [.ref x, vi i] S μ (Ri S (-2) μ) := by
  refine Ct.of (by decide) rfl (by simp [vi, Value.category]) (Nat.le_of_ble_eq_true rfl) ?_
  refine v_iload_n aX7_restore_0 rfl ?_
  refine v_if_lt 9 rfl aX7_restore_1 (by omega) (fun c1 => ?_) (fun c1 => ?_)
  · --
    refine v_bipush (by decide) aX7_restore_9 ?_
    refine v_ireturn aX7_restore_11 rfl ⟨Nat.le_refl _, Nat.le_refl _⟩ ?_
    exact ⟨rfl, rfl, rfl⟩
  · --
    refine v_iload_n aX7_restore_4 rfl ?_
    refine v_iconst aX7_restore_5 ?_
    refine v_icmp_lt 12 rfl aX7_restore_6 (by omega) (by omega) (fun c6 => ?_) (fun c6 => ?_)
    · omega
    · --
      refine v_bipush (by decide) aX7_restore_9 ?_
      refine v_ireturn aX7_restore_11 rfl ⟨Nat.le_refl _, Nat.le_refl _⟩ ?_
      exact ⟨rfl, rfl, rfl⟩
set_option maxHeartbeats 4000000 in
set_option maxRecDepth 100000 in
theorem cN_X7_restore {i : Int} (hX : LsS S x im pl) (h : LsAt μ x t g n) (hi : 0 ≤ i ∧ i ≤ 1) (him : im i.toNat = none) : Ct l G cX7_restore (yX7_restore, 3, (some FieldType.int), 2, 0, 0) [.ref x, vi i] S μ (Ri S (-3) μ) := by
  refine Ct.of (by decide) rfl (by simp [vi, Value.category]) (Nat.le_of_ble_eq_true rfl) ?_
  refine v_iload_n aX7_restore_0 rfl ?_
  refine v_if_lt 9 rfl aX7_restore_1 (by omega) (fun c1 => ?_) (fun c1 => ?_)
  · omega
  · --
    refine v_iload_n aX7_restore_4 rfl ?_
    refine v_iconst aX7_restore_5 ?_
    refine v_icmp_lt 12 rfl aX7_restore_6 (by omega) (by omega) (fun c6 => ?_) (fun c6 => ?_)
    · --
      refine v_aload_n aX7_restore_12 rfl ?_
      refine v_getr aX7_restore_13 fX7_23 hX.p rfl rfl ?_
      refine v_iload_n aX7_restore_16 rfl ?_
      refine v_aaldN (kk := 103) rfl rfl aX7_restore_17 hX.images (by omega) (by decide) him ?_
      refine v_astoreN aX7_restore_18 (by decide) rfl ?_
      refine v_aloadN aX7_restore_19 rfl ?_
      refine v_ifnonnullN aX7_restore_20 ?_
      refine v_bipush (by decide) aX7_restore_23 ?_
      refine v_ireturn aX7_restore_25 rfl ⟨Nat.le_refl _, Nat.le_refl _⟩ ?_
      exact ⟨rfl, rfl, rfl⟩
    · omega
set_option maxHeartbeats 4000000 in
set_option maxRecDepth 100000 in
theorem cR_X7_restore {i : Int} (hX : LsS S x im pl) (h : LsAt μ x t g n) (hi : 0 ≤ i ∧ i ≤ 1) (him : im i.toNat = some q) (hQ : BookS S q) (hq : BkAt μ q t') (hd : q + 19 ≤ x ∨ x + 33 ≤ q) : Ct l G cX7_restore (yX7_restore, 3, (some FieldType.int), 2, 0, 0) [.ref x, vi i] S μ (Re S (fun z μ' => z = 1 ∧ LsAt μ' x t' g n ∧ Out μ μ' x 33)) := by
  refine Ct.of (by decide) rfl (by simp [vi, Value.category]) (Nat.le_of_ble_eq_true rfl) ?_
  refine v_iload_n aX7_restore_0 rfl ?_
  refine v_if_lt 9 rfl aX7_restore_1 (by omega) (fun c1 => ?_) (fun c1 => ?_)
  · omega
  · --
    refine v_iload_n aX7_restore_4 rfl ?_
    refine v_iconst aX7_restore_5 ?_
    refine v_icmp_lt 12 rfl aX7_restore_6 (by omega) (by omega) (fun c6 => ?_) (fun c6 => ?_)
    · --
      refine v_aload_n aX7_restore_12 rfl ?_
      refine v_getr aX7_restore_13 fX7_23 hX.p rfl rfl ?_
      refine v_iload_n aX7_restore_16 rfl ?_
      refine v_aaldR (kk := 103) (q := q) rfl rfl aX7_restore_17 hX.images (by omega) (by decide) him ?_
      refine v_astore_n aX7_restore_18 (by decide) rfl ?_
      refine v_aload_n aX7_restore_19 rfl ?_
      refine v_ifnonnull 26 rfl aX7_restore_20 ?_
      refine v_aload_n aX7_restore_26 rfl ?_
      refine v_getr aX7_restore_27 fX7_19 hX.p rfl rfl ?_
      refine v_aload_n aX7_restore_30 rfl ?_
      refine v_cVw (c_X0_copyFrom hX.book hQ (by omega) hq) aX7_restore_31 mX0_copyFrom vX0_copyFrom lX7_231 hX.book.p rfl rfl rfl rfl rfl (Nat.le_of_ble_eq_true rfl) ⟨Nat.le_of_ble_eq_true rfl, Nat.le_of_ble_eq_true rfl⟩ (Nat.le_of_ble_eq_true rfl) (fun μ' ⟨r1, r2⟩ => ?_)
      refine v_iconst aX7_restore_34 ?_
      refine v_ireturn aX7_restore_35 rfl ⟨Nat.le_refl _, Nat.le_refl _⟩ ?_
      exact ⟨_, rfl, rfl, rfl, ⟨r1, by rw [r2 _ (by omega)]; exact h.2.1, by rw [r2 _ (by omega)]; exact h.2.2⟩, r2.sub (by omega)⟩
    · omega
set_option maxHeartbeats 4000000 in
set_option maxRecDepth 100000 in
theorem cO_X7_image {i : Int} (hX : LsS S x im pl) (h : LsAt μ x t g n) (hi : (-2147483648 ≤ i ∧ i < 2147483648)) (ho : ¬ (0 ≤ i ∧ i ≤ 1)) : Ct l G cX7_image (yX7_image, 3, (some FieldType.int), 2, 0, 0) [.ref x, vi i] S μ (Ri S (-2) μ) := by
  refine Ct.of (by decide) rfl (by simp [vi, Value.category]) (Nat.le_of_ble_eq_true rfl) ?_
  refine v_iload_n aX7_image_0 rfl ?_
  refine v_if_lt 9 rfl aX7_image_1 (by omega) (fun c1 => ?_) (fun c1 => ?_)
  · --
    refine v_bipush (by decide) aX7_image_9 ?_
    refine v_ireturn aX7_image_11 rfl ⟨Nat.le_refl _, Nat.le_refl _⟩ ?_
    exact ⟨rfl, rfl, rfl⟩
  · --
    refine v_iload_n aX7_image_4 rfl ?_
    refine v_iconst aX7_image_5 ?_
    refine v_icmp_lt 12 rfl aX7_image_6 (by omega) (by omega) (fun c6 => ?_) (fun c6 => ?_)
    · omega
    · --
      refine v_bipush (by decide) aX7_image_9 ?_
      refine v_ireturn aX7_image_11 rfl ⟨Nat.le_refl _, Nat.le_refl _⟩ ?_
      exact ⟨rfl, rfl, rfl⟩
set_option maxHeartbeats 4000000 in
set_option maxRecDepth 100000 in
theorem cR_X7_image {i : Int} (hX : LsS S x im pl) (h : LsAt μ x t g n) (hi : 0 ≤ i ∧ i ≤ 1) (him : im i.toNat = some q) (hQ : BookS S q) (hd : q + 19 ≤ x ∨ x + 33 ≤ q) : Ct l G cX7_image (yX7_image, 3, (some FieldType.int), 2, 0, 0) [.ref x, vi i] S μ (Re S (fun z μ' => z = 1 ∧ BkAt μ' q t ∧ Out μ μ' q 19)) := by
  refine Ct.of (by decide) rfl (by simp [vi, Value.category]) (Nat.le_of_ble_eq_true rfl) ?_
  refine v_iload_n aX7_image_0 rfl ?_
  refine v_if_lt 9 rfl aX7_image_1 (by omega) (fun c1 => ?_) (fun c1 => ?_)
  · omega
  · --
    refine v_iload_n aX7_image_4 rfl ?_
    refine v_iconst aX7_image_5 ?_
    refine v_icmp_lt 12 rfl aX7_image_6 (by omega) (by omega) (fun c6 => ?_) (fun c6 => ?_)
    · --
      refine v_aload_n aX7_image_12 rfl ?_
      refine v_getr aX7_image_13 fX7_23 hX.p rfl rfl ?_
      refine v_iload_n aX7_image_16 rfl ?_
      refine v_aaldR (kk := 103) (q := q) rfl rfl aX7_image_17 hX.images (by omega) (by decide) him ?_
      refine v_astore_n aX7_image_18 (by decide) rfl ?_
      refine v_aload_n aX7_image_19 rfl ?_
      refine v_ifnonnull 38 rfl aX7_image_20 ?_
      refine v_aload_n aX7_image_38 rfl ?_
      refine v_aload_n aX7_image_39 rfl ?_
      refine v_getr aX7_image_40 fX7_19 hX.p rfl rfl ?_
      refine v_cVw (c_X0_copyFrom hQ hX.book (by omega) h.1) aX7_image_43 mX0_copyFrom vX0_copyFrom lX7_231 hQ.p rfl rfl rfl rfl rfl (Nat.le_of_ble_eq_true rfl) ⟨Nat.le_of_ble_eq_true rfl, Nat.le_of_ble_eq_true rfl⟩ (Nat.le_of_ble_eq_true rfl) (fun μ' ⟨r1, r2⟩ => ?_)
      refine v_iconst aX7_image_46 ?_
      refine v_ireturn aX7_image_47 rfl ⟨Nat.le_refl _, Nat.le_refl _⟩ ?_
      exact ⟨_, rfl, rfl, rfl, r1, r2⟩
    · omega
theorem PadS.kept {S S' : Sh} {b : Nat} (h : PadS S b) (e : ∀ a, b ≤ a → a < b + 2 → S'.2 a = S.2 a) : PadS S' b := ⟨(e _ (by omega) (by omega)).trans h.1, (e _ (by omega) (by omega)).trans h.2⟩
theorem RelS.kept {S S' : Sh} {b : Nat} (h : RelS S b) (e : ∀ a, b ≤ a → a < b + 3 → S'.2 a = S.2 a) : RelS S' b := ⟨(e _ (by omega) (by omega)).trans h.1, (e _ (by omega) (by omega)).trans h.2.1, (e _ (by omega) (by omega)).trans h.2.2⟩
theorem SpnS.kept {S S' : Sh} {b : Nat} (h : SpnS S b) (e : ∀ a, b ≤ a → a < b + 3 → S'.2 a = S.2 a) : SpnS S' b := ⟨(e _ (by omega) (by omega)).trans h.1, (e _ (by omega) (by omega)).trans h.2.1, (e _ (by omega) (by omega)).trans h.2.2⟩
theorem FalS.kept {S S' : Sh} {b : Nat} (h : FalS S b) (e : ∀ a, b ≤ a → a < b + 1 → S'.2 a = S.2 a) : FalS S' b := (e _ (by omega) (by omega)).trans h
theorem WlnS.kept {S S' : Sh} {b : Nat} (h : WlnS S b) (e : ∀ a, b ≤ a → a < b + 2 → S'.2 a = S.2 a) : WlnS S' b := ⟨(e _ (by omega) (by omega)).trans h.1, (e _ (by omega) (by omega)).trans h.2⟩
theorem BookS.kept {S S' : Sh} {b : Nat} (h : BookS S b) (e : ∀ a, b ≤ a → a < b + 19 → S'.2 a = S.2 a) : BookS S' b := by
  obtain ⟨h1, h2, h3, h4, h5, h6, h7, h8⟩ := h
  exact ⟨(e _ (by omega) (by omega)).trans h1, (e _ (by omega) (by omega)).trans h2, (e _ (by omega) (by omega)).trans h3, (e _ (by omega) (by omega)).trans h4, (e _ (by omega) (by omega)).trans h5, (e _ (by omega) (by omega)).trans h6, (e _ (by omega) (by omega)).trans h7, fun i hi => (e _ (by omega) (by omega)).trans (h8 i hi)⟩
theorem LsS.rep {S S' : Sh} {b : Nat} {im im' pl pl' : Nat → Option Nat} (h : LsS S b im pl) (e : ∀ a, b ≤ a → a < b + 32 → a ≠ b + 22 → S'.2 a = S.2 a) (e1 : S'.2 (b + 22) = some (aR 103 2 im')) (e2 : S'.2 (b + 32) = some (aR 104 6 pl')) : LsS S' b im' pl' := by
  obtain ⟨h1, h2, h3, h4, h5, h6, h7, h8, h9⟩ := h
  exact ⟨(e _ (by omega) (by omega) (by omega)).trans h1, h2.kept (fun a a0 a1 => e a (by omega) (by omega) (by omega)), h3.kept (fun a a0 a1 => e a (by omega) (by omega) (by omega)), e1, h5.kept (fun a a0 a1 => e a (by omega) (by omega) (by omega)), h6.kept (fun a a0 a1 => e a (by omega) (by omega) (by omega)), h7.kept (fun a a0 a1 => e a (by omega) (by omega) (by omega)), h8.kept (fun a a0 a1 => e a (by omega) (by omega) (by omega)), e2⟩
theorem LsS.kept {S S' : Sh} {b : Nat} {im pl : Nat → Option Nat} (h : LsS S b im pl) (e : ∀ a, b ≤ a → a < b + 33 → S'.2 a = S.2 a) : LsS S' b im pl := h.rep (fun a a0 a1 _ => e a a0 (by omega)) ((e _ (by omega) (by omega)).trans h.images) ((e _ (by omega) (by omega)).trans h.planners)
theorem new_bk {cc : ByteArray} {F : Frm} {P : Pst} {k : Nat × Nat} {pc n' idx : Nat} {L st : List Value} (hd : At cc pc (.new idx) 3 n') (hs : S.1 = q) (hm : k.1 + 1 ≤ F.2.2.2.2.1 ∧ k.2 + 9 ≤ F.2.2.2.2.2) (hw : Cond.classLink F.1.cls idx "LastScale$Book" ∈ TBL) (h : ∀ (S' : Sh) (μ' : Mu), S'.1 = q + 1 → S'.2 q = some (oS 0 [some none, some none, some none, some none, some none, some none, none, none, none]) → (∀ r, r ≠ q → S'.2 r = S.2 r) → μ' q = (fun _ => 0) → (∀ r, r ≠ q → μ' r = μ r) → V l G cc F P (k.1 + 1, k.2 + 9) S' μ' n' L (.ref q :: st)) : V l G cc F P k S μ pc L st := by
  subst hs
  refine v_new (ci := 0) (sl := [some none, some none, some none, some none, some none, some none, none, none, none]) hd rfl rfl (fun j hj => ?_) hm hw isX0 ini0 (h (snew S (oS 0 _)) (mnew S μ) rfl (if_pos rfl) (fun r hr => if_neg hr) (if_pos rfl) (fun r hr => if_neg hr))
  have hj : j < 9 := hj
  rw [tyX0_ok j hj]
  rcases (show j = 0 ∨ j = 1 ∨ j = 2 ∨ j = 3 ∨ j = 4 ∨ j = 5 ∨ j = 6 ∨ j = 7 ∨ j = 8 by omega) with e | e | e | e | e | e | e | e | e <;> subst e <;> rfl
set_option maxHeartbeats 4000000 in
set_option maxRecDepth 100000 in
theorem cN_X7_image {i : Int} (hX : LsS S x im pl) (h : LsAt μ x t g n) (hi : 0 ≤ i ∧ i ≤ 1) (him : im i.toNat = none) (hS : S.1 = q) (hd : x + 33 ≤ q) : Ct l G cX7_image (yX7_image, 3, (some FieldType.int), 2, 19, 111) [.ref x, vi i] S μ (fun r S' μ' => r = some (vi 1) ∧ S'.1 = q + 19 ∧ LsS S' x (fun j => if j = i.toNat then some q else im j) pl ∧ BookS S' q ∧ BkAt μ' q t ∧ (∀ a, a < q → a ≠ x + 22 → S'.2 a = S.2 a) ∧ ∀ a, a < q → μ' a = μ a) := by
  refine Ct.of (by decide) rfl (by simp [vi, Value.category]) (Nat.le_of_ble_eq_true rfl) ?_
  refine v_iload_n aX7_image_0 rfl ?_
  refine v_if_lt 9 rfl aX7_image_1 (by omega) (fun c1 => ?_) (fun c1 => ?_)
  · omega
  · --
    refine v_iload_n aX7_image_4 rfl ?_
    refine v_iconst aX7_image_5 ?_
    refine v_icmp_lt 12 rfl aX7_image_6 (by omega) (by omega) (fun c6 => ?_) (fun c6 => ?_)
    · --
      refine v_aload_n aX7_image_12 rfl ?_
      refine v_getr aX7_image_13 fX7_23 hX.p rfl rfl ?_
      refine v_iload_n aX7_image_16 rfl ?_
      refine v_aaldN (kk := 103) rfl rfl aX7_image_17 hX.images (by omega) (by decide) him ?_
      refine v_astoreN aX7_image_18 (by decide) rfl ?_
      refine v_aloadN aX7_image_19 rfl ?_
      refine v_ifnonnullN aX7_image_20 ?_
      refine new_bk aX7_image_23 hS ⟨Nat.le_of_ble_eq_true rfl, Nat.le_of_ble_eq_true rfl⟩ clX7_16 (fun S1 μ1 z1 s1 e1 n1 m1 => ?_)
      refine v_dup rfl aX7_image_26 ?_
      refine v_callI [] (c_X0_init z1 s1 n1) aX7_image_27 mX0_init viX0_init rfl lX7_18 rfl rfl (Nat.le_of_ble_eq_true rfl) ⟨Nat.le_of_ble_eq_true rfl, Nat.le_of_ble_eq_true rfl⟩ (Nat.le_of_ble_eq_true rfl) ?_
      rintro r S2 μ2 ⟨rfl, z2, e2, m2, hQ2, hq2⟩
      refine v_astore_n aX7_image_30 (by decide) rfl ?_
      have hx2 : ∀ a, a < q → S2.2 a = S.2 a := fun a ha => (e2 a ha).trans (e1 a (by omega))
      have hμ2 : ∀ a, a < q → μ2 a = μ a := fun a ha => (m2 a ha).trans (m1 a (by omega))
      have hX2 : LsS S2 x im pl := hX.kept (fun a a0 a1 => hx2 a (by omega))
      refine v_aload_n aX7_image_31 rfl ?_
      refine v_getr aX7_image_32 fX7_23 hX2.p rfl rfl ?_
      refine v_iload_n aX7_image_35 rfl ?_
      refine v_aload_n aX7_image_36 rfl ?_
      refine v_aast (kk := 103) (ci := 0) rfl rfl rfl aX7_image_37 hX2.images hQ2.p rfl (by omega) (by decide) ?_
      have hX3 : LsS (sput S2 (x + 22) (aR 103 2 (fun j => if j = i.toNat then some q else im j))) x (fun j => if j = i.toNat then some q else im j) pl := hX2.rep (fun a a0 a1 a2 => if_neg a2) (if_pos rfl) ((if_neg (by omega)).trans hX2.planners)
      have hQ3 : BookS (sput S2 (x + 22) (aR 103 2 (fun j => if j = i.toNat then some q else im j))) q := hQ2.kept (fun a a0 a1 => if_neg (by omega))
      have ht2 : BkAt μ2 (x + 3) t := h.1.kept (fun a a0 a1 => hμ2 a (by omega))
      refine v_aload_n aX7_image_38 rfl ?_
      refine v_aload_n aX7_image_39 rfl ?_
      refine v_getr aX7_image_40 fX7_19 hX3.p rfl rfl ?_
      refine v_cVw (c_X0_copyFrom hQ3 hX3.book (by omega) ht2) aX7_image_43 mX0_copyFrom vX0_copyFrom lX7_231 hQ3.p rfl rfl rfl rfl rfl (Nat.le_of_ble_eq_true rfl) ⟨Nat.le_of_ble_eq_true rfl, Nat.le_of_ble_eq_true rfl⟩ (Nat.le_of_ble_eq_true rfl) (fun μ3 ⟨r1, r2⟩ => ?_)
      refine v_iconst aX7_image_46 ?_
      refine v_ireturn aX7_image_47 rfl ⟨Nat.le_of_ble_eq_true rfl, Nat.le_of_ble_eq_true rfl⟩ ?_
      exact ⟨rfl, z2, hX3, hQ3, r1, fun a ha a2 => (if_neg a2).trans (hx2 a ha), fun a ha => (r2 a (by omega)).trans (hμ2 a ha)⟩
    · omega
end IMG
