/-! a new LastScale -/
theorem new_c1 {l : Launch} {G : Glb} {S : Sh} {μ : Mu} {q : Nat} {cc : ByteArray} {F : Frm} {P : Pst} {k : Nat × Nat} {pc n' idx : Nat} {L st : List Value} (hd : At cc pc (.new idx) 3 n') (hs : S.1 = q) (hm : k.1 + 1 ≤ F.2.2.2.2.1 ∧ k.2 + 3 ≤ F.2.2.2.2.2) (hw : Cond.classLink F.1.cls idx "LastScale$FalseSayings" ∈ TBL) (h : ∀ (S' : Sh) (μ' : Mu), S'.1 = q + 1 → S'.2 q = some (oS 1 [none, none, none]) → (∀ r, r ≠ q → S'.2 r = S.2 r) → μ' q = (fun _ => 0) → (∀ r, r ≠ q → μ' r = μ r) → V l G cc F P (k.1 + 1, k.2 + 3) S' μ' n' L (.ref q :: st)) : V l G cc F P k S μ pc L st := by
  subst hs
  refine v_new (ci := 1) (sl := [none, none, none]) hd rfl rfl (fun j hj => ?_) hm hw isX1 ini1 (h (snew S (oS 1 _)) (mnew S μ) rfl (if_pos rfl) (fun r hr => if_neg hr) (if_pos rfl) (fun r hr => if_neg hr))
  have hj : j < 3 := hj
  rw [tyX1_ok j hj]
  rcases (show j = 0 ∨ j = 1 ∨ j = 2 by omega) with e | e | e <;> subst e <;> rfl
theorem new_c2 {l : Launch} {G : Glb} {S : Sh} {μ : Mu} {q : Nat} {cc : ByteArray} {F : Frm} {P : Pst} {k : Nat × Nat} {pc n' idx : Nat} {L st : List Value} (hd : At cc pc (.new idx) 3 n') (hs : S.1 = q) (hm : k.1 + 1 ≤ F.2.2.2.2.1 ∧ k.2 + 2 ≤ F.2.2.2.2.2) (hw : Cond.classLink F.1.cls idx "LastScale$Pad" ∈ TBL) (h : ∀ (S' : Sh) (μ' : Mu), S'.1 = q + 1 → S'.2 q = some (oS 2 [some none, none]) → (∀ r, r ≠ q → S'.2 r = S.2 r) → μ' q = (fun _ => 0) → (∀ r, r ≠ q → μ' r = μ r) → V l G cc F P (k.1 + 1, k.2 + 2) S' μ' n' L (.ref q :: st)) : V l G cc F P k S μ pc L st := by
  subst hs
  refine v_new (ci := 2) (sl := [some none, none]) hd rfl rfl (fun j hj => ?_) hm hw isX2 ini2 (h (snew S (oS 2 _)) (mnew S μ) rfl (if_pos rfl) (fun r hr => if_neg hr) (if_pos rfl) (fun r hr => if_neg hr))
  have hj : j < 2 := hj
  rw [tyX2_ok j hj]
  rcases (show j = 0 ∨ j = 1 by omega) with e | e <;> subst e <;> rfl
theorem new_c3 {l : Launch} {G : Glb} {S : Sh} {μ : Mu} {q : Nat} {cc : ByteArray} {F : Frm} {P : Pst} {k : Nat × Nat} {pc n' idx : Nat} {L st : List Value} (hd : At cc pc (.new idx) 3 n') (hs : S.1 = q) (hm : k.1 + 1 ≤ F.2.2.2.2.1 ∧ k.2 + 3 ≤ F.2.2.2.2.2) (hw : Cond.classLink F.1.cls idx "LastScale$Planner" ∈ TBL) (h : ∀ (S' : Sh) (μ' : Mu), S'.1 = q + 1 → S'.2 q = some (oS 3 [none, none, some none]) → (∀ r, r ≠ q → S'.2 r = S.2 r) → μ' q = (fun _ => 0) → (∀ r, r ≠ q → μ' r = μ r) → V l G cc F P (k.1 + 1, k.2 + 3) S' μ' n' L (.ref q :: st)) : V l G cc F P k S μ pc L st := by
  subst hs
  refine v_new (ci := 3) (sl := [none, none, some none]) hd rfl rfl (fun j hj => ?_) hm hw isX3 ini3 (h (snew S (oS 3 _)) (mnew S μ) rfl (if_pos rfl) (fun r hr => if_neg hr) (if_pos rfl) (fun r hr => if_neg hr))
  have hj : j < 3 := hj
  rw [tyX3_ok j hj]
  rcases (show j = 0 ∨ j = 1 ∨ j = 2 by omega) with e | e | e <;> subst e <;> rfl
theorem new_c4 {l : Launch} {G : Glb} {S : Sh} {μ : Mu} {q : Nat} {cc : ByteArray} {F : Frm} {P : Pst} {k : Nat × Nat} {pc n' idx : Nat} {L st : List Value} (hd : At cc pc (.new idx) 3 n') (hs : S.1 = q) (hm : k.1 + 1 ≤ F.2.2.2.2.1 ∧ k.2 + 5 ≤ F.2.2.2.2.2) (hw : Cond.classLink F.1.cls idx "LastScale$Relation" ∈ TBL) (h : ∀ (S' : Sh) (μ' : Mu), S'.1 = q + 1 → S'.2 q = some (oS 4 [some none, some none, none, none, none]) → (∀ r, r ≠ q → S'.2 r = S.2 r) → μ' q = (fun _ => 0) → (∀ r, r ≠ q → μ' r = μ r) → V l G cc F P (k.1 + 1, k.2 + 5) S' μ' n' L (.ref q :: st)) : V l G cc F P k S μ pc L st := by
  subst hs
  refine v_new (ci := 4) (sl := [some none, some none, none, none, none]) hd rfl rfl (fun j hj => ?_) hm hw isX4 ini4 (h (snew S (oS 4 _)) (mnew S μ) rfl (if_pos rfl) (fun r hr => if_neg hr) (if_pos rfl) (fun r hr => if_neg hr))
  have hj : j < 5 := hj
  rw [tyX4_ok j hj]
  rcases (show j = 0 ∨ j = 1 ∨ j = 2 ∨ j = 3 ∨ j = 4 by omega) with e | e | e | e | e <;> subst e <;> rfl
theorem new_c5 {l : Launch} {G : Glb} {S : Sh} {μ : Mu} {q : Nat} {cc : ByteArray} {F : Frm} {P : Pst} {k : Nat × Nat} {pc n' idx : Nat} {L st : List Value} (hd : At cc pc (.new idx) 3 n') (hs : S.1 = q) (hm : k.1 + 1 ≤ F.2.2.2.2.1 ∧ k.2 + 3 ≤ F.2.2.2.2.2) (hw : Cond.classLink F.1.cls idx "LastScale$Spans" ∈ TBL) (h : ∀ (S' : Sh) (μ' : Mu), S'.1 = q + 1 → S'.2 q = some (oS 5 [some none, some none, none]) → (∀ r, r ≠ q → S'.2 r = S.2 r) → μ' q = (fun _ => 0) → (∀ r, r ≠ q → μ' r = μ r) → V l G cc F P (k.1 + 1, k.2 + 3) S' μ' n' L (.ref q :: st)) : V l G cc F P k S μ pc L st := by
  subst hs
  refine v_new (ci := 5) (sl := [some none, some none, none]) hd rfl rfl (fun j hj => ?_) hm hw isX5 ini5 (h (snew S (oS 5 _)) (mnew S μ) rfl (if_pos rfl) (fun r hr => if_neg hr) (if_pos rfl) (fun r hr => if_neg hr))
  have hj : j < 3 := hj
  rw [tyX5_ok j hj]
  rcases (show j = 0 ∨ j = 1 ∨ j = 2 by omega) with e | e | e <;> subst e <;> rfl
theorem new_c6 {l : Launch} {G : Glb} {S : Sh} {μ : Mu} {q : Nat} {cc : ByteArray} {F : Frm} {P : Pst} {k : Nat × Nat} {pc n' idx : Nat} {L st : List Value} (hd : At cc pc (.new idx) 3 n') (hs : S.1 = q) (hm : k.1 + 1 ≤ F.2.2.2.2.1 ∧ k.2 + 4 ≤ F.2.2.2.2.2) (hw : Cond.classLink F.1.cls idx "LastScale$WeighedLine" ∈ TBL) (h : ∀ (S' : Sh) (μ' : Mu), S'.1 = q + 1 → S'.2 q = some (oS 6 [some none, none, none, none]) → (∀ r, r ≠ q → S'.2 r = S.2 r) → μ' q = (fun _ => 0) → (∀ r, r ≠ q → μ' r = μ r) → V l G cc F P (k.1 + 1, k.2 + 4) S' μ' n' L (.ref q :: st)) : V l G cc F P k S μ pc L st := by
  subst hs
  refine v_new (ci := 6) (sl := [some none, none, none, none]) hd rfl rfl (fun j hj => ?_) hm hw isX6 ini6 (h (snew S (oS 6 _)) (mnew S μ) rfl (if_pos rfl) (fun r hr => if_neg hr) (if_pos rfl) (fun r hr => if_neg hr))
  have hj : j < 4 := hj
  rw [tyX6_ok j hj]
  rcases (show j = 0 ∨ j = 1 ∨ j = 2 ∨ j = 3 by omega) with e | e | e | e <;> subst e <;> rfl
section INI
variable {l : Launch} {G : Glb} {S : Sh} {μ : Mu} {x : Nat}
set_option maxHeartbeats 4000000 in
set_option maxRecDepth 100000 in
theorem in0_X7 {P : Pst} (hs : S.1 = x + 1) (hb : S.2 x = some (oS 7 [some none, some none, some none, some none, some none, some none, some none, some none]))  (hh : ∀ (S' : Sh) (μ' : Mu), S'.1 = x + 3 → S'.2 x = some (oS 7 [some (some (x + 1)), some none, some none, some none, some none, some none, some none, some none]) → (∀ a, a < x → S'.2 a = S.2 a) → (∀ a, a < x → μ' a = μ a) → PadS S' (x + 1) → μ' (x + 1) 1 = 0 ∧ μ' (x + 1 + 1) = (fun _ => 0) → V l G cX7_init (yX7_init, 1, none, 2, 32, 264) P (2, 42) S' μ' 15 [.ref x] []) : V l G cX7_init (yX7_init, 1, none, 2, 32, 264) P (0, 0) S μ 4 [.ref x] [] := by
  refine v_aload_n aX7_init_4 rfl ?_
  refine new_c2 aX7_init_5 hs ⟨Nat.le_of_ble_eq_true rfl, Nat.le_of_ble_eq_true rfl⟩ clX7_7 (fun S1 μ1 z1 s1 e1 n1 m1 => ?_)
  refine v_dup rfl aX7_init_8 ?_
  refine v_callI [] (c_X2_init z1 s1 n1) aX7_init_9 mX2_init viX2_init rfl lX7_9 rfl rfl (Nat.le_of_ble_eq_true rfl) ⟨Nat.le_of_ble_eq_true rfl, Nat.le_of_ble_eq_true rfl⟩ (Nat.le_of_ble_eq_true rfl) ?_
  rintro r2 S2 μ2 ⟨rfl, z2, e2, m2, q2, v2⟩
  have c2 : ∀ a, a < x + 1 → S2.2 a = S.2 a := fun a ha => (e2 a (by omega)).trans (e1 a (by omega))
  have d2 : ∀ a, a < x + 1 → μ2 a = μ a := fun a ha => (m2 a (by omega)).trans (m1 a (by omega))
  refine w_putFr aX7_init_12 foX7_10 fi7_0 ok7_0 rfl ((c2 x (by omega)).trans hb) (Nat.le_of_ble_eq_true rfl) rfl (fun S3 w3 s3 e3 => ?_)
  have c3 : ∀ a, a ≠ x → a < x + 1 → S3.2 a = S.2 a := fun a h1 h2 => (e3 a h1).trans (c2 a h2)
  exact hh S3 μ2 (w3.trans z2) s3 (fun a ha => c3 a (by omega) (by omega)) (fun a ha => d2 a (by omega)) (q2.kept (fun a a0 a1 => e3 a (by omega))) (v2)
set_option maxHeartbeats 4000000 in
set_option maxRecDepth 100000 in
theorem in1_X7 {P : Pst} (hs : S.1 = x + 3) (hb : S.2 x = some (oS 7 [some (some (x + 1)), some none, some none, some none, some none, some none, some none, some none])) (h_pad : PadS S (x + 1)) (h_vpad : μ (x + 1) 1 = 0 ∧ μ (x + 1 + 1) = (fun _ => 0)) (hh : ∀ (S' : Sh) (μ' : Mu), S'.1 = x + 22 → S'.2 x = some (oS 7 [some (some (x + 1)), some (some (x + 3)), some none, some none, some none, some none, some none, some none]) → (∀ a, a < x → S'.2 a = S.2 a) → (∀ a, a < x → μ' a = μ a) → PadS S' (x + 1) → μ' (x + 1) 1 = 0 ∧ μ' (x + 1 + 1) = (fun _ => 0) → BookS S' (x + 3) → BkAt μ' (x + 3) bk0 → V l G cX7_init (yX7_init, 1, none, 2, 32, 264) P (21, 153) S' μ' 26 [.ref x] []) : V l G cX7_init (yX7_init, 1, none, 2, 32, 264) P (2, 42) S μ 15 [.ref x] [] := by
  refine v_aload_n aX7_init_15 rfl ?_
  refine new_bk aX7_init_16 hs ⟨Nat.le_of_ble_eq_true rfl, Nat.le_of_ble_eq_true rfl⟩ clX7_16 (fun S1 μ1 z1 s1 e1 n1 m1 => ?_)
  refine v_dup rfl aX7_init_19 ?_
  refine v_callI [] (c_X0_init z1 s1 n1) aX7_init_20 mX0_init viX0_init rfl lX7_18 rfl rfl (Nat.le_of_ble_eq_true rfl) ⟨Nat.le_of_ble_eq_true rfl, Nat.le_of_ble_eq_true rfl⟩ (Nat.le_of_ble_eq_true rfl) ?_
  rintro r2 S2 μ2 ⟨rfl, z2, e2, m2, q2, v2⟩
  have c2 : ∀ a, a < x + 3 → S2.2 a = S.2 a := fun a ha => (e2 a (by omega)).trans (e1 a (by omega))
  have d2 : ∀ a, a < x + 3 → μ2 a = μ a := fun a ha => (m2 a (by omega)).trans (m1 a (by omega))
  refine w_putFr aX7_init_23 foX7_19 fi7_1 ok7_1 rfl ((c2 x (by omega)).trans hb) (Nat.le_of_ble_eq_true rfl) rfl (fun S3 w3 s3 e3 => ?_)
  have c3 : ∀ a, a ≠ x → a < x + 3 → S3.2 a = S.2 a := fun a h1 h2 => (e3 a h1).trans (c2 a h2)
  exact hh S3 μ2 (w3.trans z2) s3 (fun a ha => c3 a (by omega) (by omega)) (fun a ha => d2 a (by omega)) (h_pad.kept (fun a a0 a1 => c3 a (by omega) (by omega))) (⟨(congrFun (d2 (x + 1) (by omega)) 1).trans h_vpad.1, (d2 (x + 1 + 1) (by omega)).trans h_vpad.2⟩) (q2.kept (fun a a0 a1 => e3 a (by omega))) (v2)
set_option maxHeartbeats 4000000 in
set_option maxRecDepth 100000 in
theorem in2_X7 {P : Pst} (hs : S.1 = x + 22) (hb : S.2 x = some (oS 7 [some (some (x + 1)), some (some (x + 3)), some none, some none, some none, some none, some none, some none])) (h_pad : PadS S (x + 1)) (h_vpad : μ (x + 1) 1 = 0 ∧ μ (x + 1 + 1) = (fun _ => 0)) (h_book : BookS S (x + 3)) (h_vbook : BkAt μ (x + 3) bk0) (hh : ∀ (S' : Sh) (μ' : Mu), S'.1 = x + 23 → S'.2 x = some (oS 7 [some (some (x + 1)), some (some (x + 3)), some (some (x + 22)), some none, some none, some none, some none, some none]) → (∀ a, a < x → S'.2 a = S.2 a) → (∀ a, a < x → μ' a = μ a) → PadS S' (x + 1) → μ' (x + 1) 1 = 0 ∧ μ' (x + 1 + 1) = (fun _ => 0) → BookS S' (x + 3) → BkAt μ' (x + 3) bk0 → S'.2 (x + 22) = some (aR 103 2 (fun _ => none)) → V l G cX7_init (yX7_init, 1, none, 2, 32, 264) P (22, 155) S' μ' 34 [.ref x] []) : V l G cX7_init (yX7_init, 1, none, 2, 32, 264) P (21, 153) S μ 26 [.ref x] [] := by
  refine v_aload_n aX7_init_26 rfl ?_
  refine v_iconst aX7_init_27 ?_
  refine w_newR (N := 2) (kk := 103) (a := x + 22) aX7_init_28 hs rfl rfl clX7_16 w_oB (Nat.le_of_ble_eq_true rfl) ⟨Nat.le_of_ble_eq_true rfl, Nat.le_of_ble_eq_true rfl⟩ (fun S2 μ2 z2 q2 e2 n2 m2 => ?_)
  have c2 : ∀ a, a < x + 22 → S2.2 a = S.2 a := fun a ha => e2 a (by omega)
  have d2 : ∀ a, a < x + 22 → μ2 a = μ a := fun a ha => m2 a (by omega)
  refine w_putFr aX7_init_31 foX7_23 fi7_2 ok7_2 rfl ((c2 x (by omega)).trans hb) (Nat.le_of_ble_eq_true rfl) rfl (fun S3 w3 s3 e3 => ?_)
  have c3 : ∀ a, a ≠ x → a < x + 22 → S3.2 a = S.2 a := fun a h1 h2 => (e3 a h1).trans (c2 a h2)
  exact hh S3 μ2 (w3.trans z2) s3 (fun a ha => c3 a (by omega) (by omega)) (fun a ha => d2 a (by omega)) (h_pad.kept (fun a a0 a1 => c3 a (by omega) (by omega))) (⟨(congrFun (d2 (x + 1) (by omega)) 1).trans h_vpad.1, (d2 (x + 1 + 1) (by omega)).trans h_vpad.2⟩) (h_book.kept (fun a a0 a1 => c3 a (by omega) (by omega))) (h_vbook.kept (fun a a0 a1 => d2 a (by omega))) ((e3 _ (by omega)).trans q2)
set_option maxHeartbeats 4000000 in
set_option maxRecDepth 100000 in
theorem in3_X7 {P : Pst} (hs : S.1 = x + 23) (hb : S.2 x = some (oS 7 [some (some (x + 1)), some (some (x + 3)), some (some (x + 22)), some none, some none, some none, some none, some none])) (h_pad : PadS S (x + 1)) (h_vpad : μ (x + 1) 1 = 0 ∧ μ (x + 1 + 1) = (fun _ => 0)) (h_book : BookS S (x + 3)) (h_vbook : BkAt μ (x + 3) bk0) (h_img : S.2 (x + 22) = some (aR 103 2 (fun _ => none))) (hh : ∀ (S' : Sh) (μ' : Mu), S'.1 = x + 26 → S'.2 x = some (oS 7 [some (some (x + 1)), some (some (x + 3)), some (some (x + 22)), some (some (x + 23)), some none, some none, some none, some none]) → (∀ a, a < x → S'.2 a = S.2 a) → (∀ a, a < x → μ' a = μ a) → PadS S' (x + 1) → μ' (x + 1) 1 = 0 ∧ μ' (x + 1 + 1) = (fun _ => 0) → BookS S' (x + 3) → BkAt μ' (x + 3) bk0 → S'.2 (x + 22) = some (aR 103 2 (fun _ => none)) → RelS S' (x + 23) → V l G cX7_init (yX7_init, 1, none, 2, 32, 264) P (25, 230) S' μ' 45 [.ref x] []) : V l G cX7_init (yX7_init, 1, none, 2, 32, 264) P (22, 155) S μ 34 [.ref x] [] := by
  refine v_aload_n aX7_init_34 rfl ?_
  refine new_c4 aX7_init_35 hs ⟨Nat.le_of_ble_eq_true rfl, Nat.le_of_ble_eq_true rfl⟩ clX7_27 (fun S1 μ1 z1 s1 e1 n1 m1 => ?_)
  refine v_dup rfl aX7_init_38 ?_
  refine v_callI [] (c_X4_init z1 s1 n1) aX7_init_39 mX4_init viX4_init rfl lX7_29 rfl rfl (Nat.le_of_ble_eq_true rfl) ⟨Nat.le_of_ble_eq_true rfl, Nat.le_of_ble_eq_true rfl⟩ (Nat.le_of_ble_eq_true rfl) ?_
  rintro r2 S2 μ2 ⟨rfl, z2, e2, m2, q2, -⟩
  have c2 : ∀ a, a < x + 23 → S2.2 a = S.2 a := fun a ha => (e2 a (by omega)).trans (e1 a (by omega))
  have d2 : ∀ a, a < x + 23 → μ2 a = μ a := fun a ha => (m2 a (by omega)).trans (m1 a (by omega))
  refine w_putFr aX7_init_42 foX7_30 fi7_3 ok7_3 rfl ((c2 x (by omega)).trans hb) (Nat.le_of_ble_eq_true rfl) rfl (fun S3 w3 s3 e3 => ?_)
  have c3 : ∀ a, a ≠ x → a < x + 23 → S3.2 a = S.2 a := fun a h1 h2 => (e3 a h1).trans (c2 a h2)
  exact hh S3 μ2 (w3.trans z2) s3 (fun a ha => c3 a (by omega) (by omega)) (fun a ha => d2 a (by omega)) (h_pad.kept (fun a a0 a1 => c3 a (by omega) (by omega))) (⟨(congrFun (d2 (x + 1) (by omega)) 1).trans h_vpad.1, (d2 (x + 1 + 1) (by omega)).trans h_vpad.2⟩) (h_book.kept (fun a a0 a1 => c3 a (by omega) (by omega))) (h_vbook.kept (fun a a0 a1 => d2 a (by omega))) ((c3 _ (by omega) (by omega)).trans h_img) (q2.kept (fun a a0 a1 => e3 a (by omega)))
set_option maxHeartbeats 4000000 in
set_option maxRecDepth 100000 in
theorem in4_X7 {P : Pst} (hs : S.1 = x + 26) (hb : S.2 x = some (oS 7 [some (some (x + 1)), some (some (x + 3)), some (some (x + 22)), some (some (x + 23)), some none, some none, some none, some none])) (h_pad : PadS S (x + 1)) (h_vpad : μ (x + 1) 1 = 0 ∧ μ (x + 1 + 1) = (fun _ => 0)) (h_book : BookS S (x + 3)) (h_vbook : BkAt μ (x + 3) bk0) (h_img : S.2 (x + 22) = some (aR 103 2 (fun _ => none))) (h_relation : RelS S (x + 23)) (hh : ∀ (S' : Sh) (μ' : Mu), S'.1 = x + 29 → S'.2 x = some (oS 7 [some (some (x + 1)), some (some (x + 3)), some (some (x + 22)), some (some (x + 23)), some (some (x + 26)), some none, some none, some none]) → (∀ a, a < x → S'.2 a = S.2 a) → (∀ a, a < x → μ' a = μ a) → PadS S' (x + 1) → μ' (x + 1) 1 = 0 ∧ μ' (x + 1 + 1) = (fun _ => 0) → BookS S' (x + 3) → BkAt μ' (x + 3) bk0 → S'.2 (x + 22) = some (aR 103 2 (fun _ => none)) → RelS S' (x + 23) → SpnS S' (x + 26) → V l G cX7_init (yX7_init, 1, none, 2, 32, 264) P (28, 245) S' μ' 56 [.ref x] []) : V l G cX7_init (yX7_init, 1, none, 2, 32, 264) P (25, 230) S μ 45 [.ref x] [] := by
  refine v_aload_n aX7_init_45 rfl ?_
  refine new_c5 aX7_init_46 hs ⟨Nat.le_of_ble_eq_true rfl, Nat.le_of_ble_eq_true rfl⟩ clX7_34 (fun S1 μ1 z1 s1 e1 n1 m1 => ?_)
  refine v_dup rfl aX7_init_49 ?_
  refine v_callI [] (c_X5_init z1 s1 n1) aX7_init_50 mX5_init viX5_init rfl lX7_36 rfl rfl (Nat.le_of_ble_eq_true rfl) ⟨Nat.le_of_ble_eq_true rfl, Nat.le_of_ble_eq_true rfl⟩ (Nat.le_of_ble_eq_true rfl) ?_
  rintro r2 S2 μ2 ⟨rfl, z2, e2, m2, q2, -⟩
  have c2 : ∀ a, a < x + 26 → S2.2 a = S.2 a := fun a ha => (e2 a (by omega)).trans (e1 a (by omega))
  have d2 : ∀ a, a < x + 26 → μ2 a = μ a := fun a ha => (m2 a (by omega)).trans (m1 a (by omega))
  refine w_putFr aX7_init_53 foX7_37 fi7_4 ok7_4 rfl ((c2 x (by omega)).trans hb) (Nat.le_of_ble_eq_true rfl) rfl (fun S3 w3 s3 e3 => ?_)
  have c3 : ∀ a, a ≠ x → a < x + 26 → S3.2 a = S.2 a := fun a h1 h2 => (e3 a h1).trans (c2 a h2)
  exact hh S3 μ2 (w3.trans z2) s3 (fun a ha => c3 a (by omega) (by omega)) (fun a ha => d2 a (by omega)) (h_pad.kept (fun a a0 a1 => c3 a (by omega) (by omega))) (⟨(congrFun (d2 (x + 1) (by omega)) 1).trans h_vpad.1, (d2 (x + 1 + 1) (by omega)).trans h_vpad.2⟩) (h_book.kept (fun a a0 a1 => c3 a (by omega) (by omega))) (h_vbook.kept (fun a a0 a1 => d2 a (by omega))) ((c3 _ (by omega) (by omega)).trans h_img) (h_relation.kept (fun a a0 a1 => c3 a (by omega) (by omega))) (q2.kept (fun a a0 a1 => e3 a (by omega)))
set_option maxHeartbeats 4000000 in
set_option maxRecDepth 100000 in
theorem in5_X7 {P : Pst} (hs : S.1 = x + 29) (hb : S.2 x = some (oS 7 [some (some (x + 1)), some (some (x + 3)), some (some (x + 22)), some (some (x + 23)), some (some (x + 26)), some none, some none, some none])) (h_pad : PadS S (x + 1)) (h_vpad : μ (x + 1) 1 = 0 ∧ μ (x + 1 + 1) = (fun _ => 0)) (h_book : BookS S (x + 3)) (h_vbook : BkAt μ (x + 3) bk0) (h_img : S.2 (x + 22) = some (aR 103 2 (fun _ => none))) (h_relation : RelS S (x + 23)) (h_spans : SpnS S (x + 26)) (hh : ∀ (S' : Sh) (μ' : Mu), S'.1 = x + 30 → S'.2 x = some (oS 7 [some (some (x + 1)), some (some (x + 3)), some (some (x + 22)), some (some (x + 23)), some (some (x + 26)), some (some (x + 29)), some none, some none]) → (∀ a, a < x → S'.2 a = S.2 a) → (∀ a, a < x → μ' a = μ a) → PadS S' (x + 1) → μ' (x + 1) 1 = 0 ∧ μ' (x + 1 + 1) = (fun _ => 0) → BookS S' (x + 3) → BkAt μ' (x + 3) bk0 → S'.2 (x + 22) = some (aR 103 2 (fun _ => none)) → RelS S' (x + 23) → SpnS S' (x + 26) → FalS S' (x + 29) → V l G cX7_init (yX7_init, 1, none, 2, 32, 264) P (29, 248) S' μ' 67 [.ref x] []) : V l G cX7_init (yX7_init, 1, none, 2, 32, 264) P (28, 245) S μ 56 [.ref x] [] := by
  refine v_aload_n aX7_init_56 rfl ?_
  refine new_c1 aX7_init_57 hs ⟨Nat.le_of_ble_eq_true rfl, Nat.le_of_ble_eq_true rfl⟩ clX7_41 (fun S1 μ1 z1 s1 e1 n1 m1 => ?_)
  refine v_dup rfl aX7_init_60 ?_
  refine v_callI [] (c_X1_init z1 s1 n1) aX7_init_61 mX1_init viX1_init rfl lX7_43 rfl rfl (Nat.le_of_ble_eq_true rfl) ⟨Nat.le_of_ble_eq_true rfl, Nat.le_of_ble_eq_true rfl⟩ (Nat.le_of_ble_eq_true rfl) ?_
  rintro r2 S2 μ2 ⟨rfl, z2, e2, m2, q2, -⟩
  have c2 : ∀ a, a < x + 29 → S2.2 a = S.2 a := fun a ha => (e2 a (by omega)).trans (e1 a (by omega))
  have d2 : ∀ a, a < x + 29 → μ2 a = μ a := fun a ha => (m2 a (by omega)).trans (m1 a (by omega))
  refine w_putFr aX7_init_64 foX7_44 fi7_5 ok7_5 rfl ((c2 x (by omega)).trans hb) (Nat.le_of_ble_eq_true rfl) rfl (fun S3 w3 s3 e3 => ?_)
  have c3 : ∀ a, a ≠ x → a < x + 29 → S3.2 a = S.2 a := fun a h1 h2 => (e3 a h1).trans (c2 a h2)
  exact hh S3 μ2 (w3.trans z2) s3 (fun a ha => c3 a (by omega) (by omega)) (fun a ha => d2 a (by omega)) (h_pad.kept (fun a a0 a1 => c3 a (by omega) (by omega))) (⟨(congrFun (d2 (x + 1) (by omega)) 1).trans h_vpad.1, (d2 (x + 1 + 1) (by omega)).trans h_vpad.2⟩) (h_book.kept (fun a a0 a1 => c3 a (by omega) (by omega))) (h_vbook.kept (fun a a0 a1 => d2 a (by omega))) ((c3 _ (by omega) (by omega)).trans h_img) (h_relation.kept (fun a a0 a1 => c3 a (by omega) (by omega))) (h_spans.kept (fun a a0 a1 => c3 a (by omega) (by omega))) (q2.kept (fun a a0 a1 => e3 a (by omega)))
set_option maxHeartbeats 4000000 in
set_option maxRecDepth 100000 in
theorem in6_X7 {P : Pst} (hs : S.1 = x + 30) (hb : S.2 x = some (oS 7 [some (some (x + 1)), some (some (x + 3)), some (some (x + 22)), some (some (x + 23)), some (some (x + 26)), some (some (x + 29)), some none, some none])) (h_pad : PadS S (x + 1)) (h_vpad : μ (x + 1) 1 = 0 ∧ μ (x + 1 + 1) = (fun _ => 0)) (h_book : BookS S (x + 3)) (h_vbook : BkAt μ (x + 3) bk0) (h_img : S.2 (x + 22) = some (aR 103 2 (fun _ => none))) (h_relation : RelS S (x + 23)) (h_spans : SpnS S (x + 26)) (h_fal : FalS S (x + 29)) (hh : ∀ (S' : Sh) (μ' : Mu), S'.1 = x + 32 → S'.2 x = some (oS 7 [some (some (x + 1)), some (some (x + 3)), some (some (x + 22)), some (some (x + 23)), some (some (x + 26)), some (some (x + 29)), some (some (x + 30)), some none]) → (∀ a, a < x → S'.2 a = S.2 a) → (∀ a, a < x → μ' a = μ a) → PadS S' (x + 1) → μ' (x + 1) 1 = 0 ∧ μ' (x + 1 + 1) = (fun _ => 0) → BookS S' (x + 3) → BkAt μ' (x + 3) bk0 → S'.2 (x + 22) = some (aR 103 2 (fun _ => none)) → RelS S' (x + 23) → SpnS S' (x + 26) → FalS S' (x + 29) → WlnS S' (x + 30) → V l G cX7_init (yX7_init, 1, none, 2, 32, 264) P (31, 258) S' μ' 78 [.ref x] []) : V l G cX7_init (yX7_init, 1, none, 2, 32, 264) P (29, 248) S μ 67 [.ref x] [] := by
  refine v_aload_n aX7_init_67 rfl ?_
  refine new_c6 aX7_init_68 hs ⟨Nat.le_of_ble_eq_true rfl, Nat.le_of_ble_eq_true rfl⟩ clX7_48 (fun S1 μ1 z1 s1 e1 n1 m1 => ?_)
  refine v_dup rfl aX7_init_71 ?_
  refine v_callI [] (c_X6_init z1 s1 n1) aX7_init_72 mX6_init viX6_init rfl lX7_50 rfl rfl (Nat.le_of_ble_eq_true rfl) ⟨Nat.le_of_ble_eq_true rfl, Nat.le_of_ble_eq_true rfl⟩ (Nat.le_of_ble_eq_true rfl) ?_
  rintro r2 S2 μ2 ⟨rfl, z2, e2, m2, q2, -⟩
  have c2 : ∀ a, a < x + 30 → S2.2 a = S.2 a := fun a ha => (e2 a (by omega)).trans (e1 a (by omega))
  have d2 : ∀ a, a < x + 30 → μ2 a = μ a := fun a ha => (m2 a (by omega)).trans (m1 a (by omega))
  refine w_putFr aX7_init_75 foX7_51 fi7_6 ok7_6 rfl ((c2 x (by omega)).trans hb) (Nat.le_of_ble_eq_true rfl) rfl (fun S3 w3 s3 e3 => ?_)
  have c3 : ∀ a, a ≠ x → a < x + 30 → S3.2 a = S.2 a := fun a h1 h2 => (e3 a h1).trans (c2 a h2)
  exact hh S3 μ2 (w3.trans z2) s3 (fun a ha => c3 a (by omega) (by omega)) (fun a ha => d2 a (by omega)) (h_pad.kept (fun a a0 a1 => c3 a (by omega) (by omega))) (⟨(congrFun (d2 (x + 1) (by omega)) 1).trans h_vpad.1, (d2 (x + 1 + 1) (by omega)).trans h_vpad.2⟩) (h_book.kept (fun a a0 a1 => c3 a (by omega) (by omega))) (h_vbook.kept (fun a a0 a1 => d2 a (by omega))) ((c3 _ (by omega) (by omega)).trans h_img) (h_relation.kept (fun a a0 a1 => c3 a (by omega) (by omega))) (h_spans.kept (fun a a0 a1 => c3 a (by omega) (by omega))) (h_fal.kept (fun a a0 a1 => c3 a (by omega) (by omega))) (q2.kept (fun a a0 a1 => e3 a (by omega)))
set_option maxHeartbeats 4000000 in
set_option maxRecDepth 100000 in
theorem in7_X7 {P : Pst} (hs : S.1 = x + 32) (hb : S.2 x = some (oS 7 [some (some (x + 1)), some (some (x + 3)), some (some (x + 22)), some (some (x + 23)), some (some (x + 26)), some (some (x + 29)), some (some (x + 30)), some none])) (h_pad : PadS S (x + 1)) (h_vpad : μ (x + 1) 1 = 0 ∧ μ (x + 1 + 1) = (fun _ => 0)) (h_book : BookS S (x + 3)) (h_vbook : BkAt μ (x + 3) bk0) (h_img : S.2 (x + 22) = some (aR 103 2 (fun _ => none))) (h_relation : RelS S (x + 23)) (h_spans : SpnS S (x + 26)) (h_fal : FalS S (x + 29)) (h_wln : WlnS S (x + 30)) (hh : ∀ (S' : Sh) (μ' : Mu), S'.1 = x + 33 → S'.2 x = some (oS 7 [some (some (x + 1)), some (some (x + 3)), some (some (x + 22)), some (some (x + 23)), some (some (x + 26)), some (some (x + 29)), some (some (x + 30)), some (some (x + 32))]) → (∀ a, a < x → S'.2 a = S.2 a) → (∀ a, a < x → μ' a = μ a) → PadS S' (x + 1) → μ' (x + 1) 1 = 0 ∧ μ' (x + 1 + 1) = (fun _ => 0) → BookS S' (x + 3) → BkAt μ' (x + 3) bk0 → S'.2 (x + 22) = some (aR 103 2 (fun _ => none)) → RelS S' (x + 23) → SpnS S' (x + 26) → FalS S' (x + 29) → WlnS S' (x + 30) → S'.2 (x + 32) = some (aR 104 6 (fun _ => none)) → V l G cX7_init (yX7_init, 1, none, 2, 32, 264) P (32, 264) S' μ' 87 [.ref x] []) : V l G cX7_init (yX7_init, 1, none, 2, 32, 264) P (31, 258) S μ 78 [.ref x] [] := by
  refine v_aload_n aX7_init_78 rfl ?_
  refine v_bipush (by decide) aX7_init_79 ?_
  refine w_newR (N := 6) (kk := 104) (a := x + 32) aX7_init_81 hs rfl rfl clX7_55 w_oP (Nat.le_of_ble_eq_true rfl) ⟨Nat.le_of_ble_eq_true rfl, Nat.le_of_ble_eq_true rfl⟩ (fun S2 μ2 z2 q2 e2 n2 m2 => ?_)
  have c2 : ∀ a, a < x + 32 → S2.2 a = S.2 a := fun a ha => e2 a (by omega)
  have d2 : ∀ a, a < x + 32 → μ2 a = μ a := fun a ha => m2 a (by omega)
  refine w_putFr aX7_init_84 foX7_57 fi7_7 ok7_7 rfl ((c2 x (by omega)).trans hb) (Nat.le_of_ble_eq_true rfl) rfl (fun S3 w3 s3 e3 => ?_)
  have c3 : ∀ a, a ≠ x → a < x + 32 → S3.2 a = S.2 a := fun a h1 h2 => (e3 a h1).trans (c2 a h2)
  exact hh S3 μ2 (w3.trans z2) s3 (fun a ha => c3 a (by omega) (by omega)) (fun a ha => d2 a (by omega)) (h_pad.kept (fun a a0 a1 => c3 a (by omega) (by omega))) (⟨(congrFun (d2 (x + 1) (by omega)) 1).trans h_vpad.1, (d2 (x + 1 + 1) (by omega)).trans h_vpad.2⟩) (h_book.kept (fun a a0 a1 => c3 a (by omega) (by omega))) (h_vbook.kept (fun a a0 a1 => d2 a (by omega))) ((c3 _ (by omega) (by omega)).trans h_img) (h_relation.kept (fun a a0 a1 => c3 a (by omega) (by omega))) (h_spans.kept (fun a a0 a1 => c3 a (by omega) (by omega))) (h_fal.kept (fun a a0 a1 => c3 a (by omega) (by omega))) (h_wln.kept (fun a a0 a1 => c3 a (by omega) (by omega))) ((e3 _ (by omega)).trans q2)
set_option maxHeartbeats 4000000 in
set_option maxRecDepth 100000 in
theorem c_X7_init (hS1 : S.1 = x + 1) (hb : S.2 x = some (oS 7 [some none, some none, some none, some none, some none, some none, some none, some none])) : Ct l G cX7_init (yX7_init, 1, none, 2, 32, 264) [.ref x] S μ (Mk S μ x 33 (fun S' μ' => LsS S' x (fun _ => none) (fun _ => none) ∧ LsAt μ' x bk0 (fun _ => 0) 0)) := by
  refine Ct.of (by decide) rfl (by simp [vi, Value.category]) (Nat.le_of_ble_eq_true rfl) ?_
  refine v_aload_n aX7_init_0 rfl ?_
  refine v_objInit aX7_init_1 loX7_1 w_obi w_obc (Nat.le_of_ble_eq_true rfl) (Nat.le_of_ble_eq_true rfl) ?_
  refine in0_X7 hS1 hb  (fun S1 μ1 z1 b1 e1 m1 h1_pad h1_vpad => ?_)
  refine in1_X7 z1 b1 h1_pad h1_vpad (fun S2 μ2 z2 b2 e2 m2 h2_pad h2_vpad h2_book h2_vbook => ?_)
  refine in2_X7 z2 b2 h2_pad h2_vpad h2_book h2_vbook (fun S3 μ3 z3 b3 e3 m3 h3_pad h3_vpad h3_book h3_vbook h3_img => ?_)
  refine in3_X7 z3 b3 h3_pad h3_vpad h3_book h3_vbook h3_img (fun S4 μ4 z4 b4 e4 m4 h4_pad h4_vpad h4_book h4_vbook h4_img h4_relation => ?_)
  refine in4_X7 z4 b4 h4_pad h4_vpad h4_book h4_vbook h4_img h4_relation (fun S5 μ5 z5 b5 e5 m5 h5_pad h5_vpad h5_book h5_vbook h5_img h5_relation h5_spans => ?_)
  refine in5_X7 z5 b5 h5_pad h5_vpad h5_book h5_vbook h5_img h5_relation h5_spans (fun S6 μ6 z6 b6 e6 m6 h6_pad h6_vpad h6_book h6_vbook h6_img h6_relation h6_spans h6_fal => ?_)
  refine in6_X7 z6 b6 h6_pad h6_vpad h6_book h6_vbook h6_img h6_relation h6_spans h6_fal (fun S7 μ7 z7 b7 e7 m7 h7_pad h7_vpad h7_book h7_vbook h7_img h7_relation h7_spans h7_fal h7_wln => ?_)
  refine in7_X7 z7 b7 h7_pad h7_vpad h7_book h7_vbook h7_img h7_relation h7_spans h7_fal h7_wln (fun S8 μ8 z8 b8 e8 m8 h8_pad h8_vpad h8_book h8_vbook h8_img h8_relation h8_spans h8_fal h8_wln h8_pln => ?_)
  refine v_return aX7_init_87 rfl ⟨Nat.le_refl _, Nat.le_refl _⟩ ?_
  exact ⟨rfl, z8, fun a ha => (e8 a ha).trans ((e7 a ha).trans ((e6 a ha).trans ((e5 a ha).trans ((e4 a ha).trans ((e3 a ha).trans ((e2 a ha).trans ((e1 a ha).trans (rfl)))))))), fun a ha => (m8 a ha).trans ((m7 a ha).trans ((m6 a ha).trans ((m5 a ha).trans ((m4 a ha).trans ((m3 a ha).trans ((m2 a ha).trans ((m1 a ha).trans (rfl)))))))), ⟨b8, h8_pad, h8_book, h8_img, h8_relation, h8_spans, h8_fal, h8_wln, h8_pln⟩, h8_vbook, h8_vpad.2, h8_vpad.1⟩
end INI
