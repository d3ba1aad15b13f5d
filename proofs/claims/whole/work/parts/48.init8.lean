/-! a new model -/
def mshp : Nat → Shp
  | 1 => aI 40
  | 2 => aI 60
  | 3 => aI 6
  | 4 => aI 6
  | 5 => aI 6
  | 6 => aI 6
  | 7 => aI 6
  | 8 => aZ 36
  | 9 => aZ 36
  | 10 => aI 6
  | 11 => aI 6
  | 12 => aI 64
  | 13 => aI 26000
  | 14 => aI 26000
  | 15 => aI 26000
  | 16 => aI 65536
  | 17 => aI 6
  | 18 => aI 6
  | 19 => aI 6
  | 20 => aI 186
  | 21 => aZ 2
  | _ => aI 0
section IN8
variable {l : Launch} {G : Glb} {S : Sh} {μ : Mu} {x : Nat}
set_option maxHeartbeats 4000000 in
set_option maxRecDepth 100000 in
theorem in1_X8 {P : Pst} (hs : S.1 = x + 1) (hb : S.2 x = some (oS 8 [none, none, some none, none, some none, some none, some none, some none, some none, none, some none, some none, some none, none, some none, some none, some none, none, some none, some none, some none, some none, some none, some none, some none, some none, some none])) (h : ∀ j, 1 ≤ j → j ≤ 0 → S.2 (x + j) = some (mshp j) ∧ μ (x + j) = (fun _ => 0)) (hh : ∀ (S' : Sh) (μ' : Mu), S'.1 = x + 2 → S'.2 x = some (oS 8 [none, none, some (some (x + 1)), none, some none, some none, some none, some none, some none, none, some none, some none, some none, none, some none, some none, some none, none, some none, some none, some none, some none, some none, some none, some none, some none, some none]) → (∀ a, a < x → S'.2 a = S.2 a) → (∀ a, a ≤ x → μ' a = μ a) → (∀ j, 1 ≤ j → j ≤ 1 → S'.2 (x + j) = some (mshp j) ∧ μ' (x + j) = (fun _ => 0)) → V l G cX8_init (yX8_init, 2, none, 1, 21, 144020) P (1, 40) S' μ' 18 [.ref x] []) : V l G cX8_init (yX8_init, 2, none, 1, 21, 144020) P (0, 0) S μ 10 [.ref x] [] := by
  refine v_aload_n aX8_init_10 rfl ?_
  refine v_bipush (by decide) aX8_init_11 ?_
  refine w_newI (N := 40) (a := x + 1) aX8_init_13 hs rfl (Nat.le_of_ble_eq_true rfl) ⟨Nat.le_of_ble_eq_true rfl, Nat.le_of_ble_eq_true rfl⟩ (fun S2 μ2 z2 q2 e2 n2 m2 => ?_)
  refine w_putFr aX8_init_15 foX8_13 fi8_2 ok8_2 rfl ((e2 x (by omega)).trans hb) (Nat.le_of_ble_eq_true rfl) rfl (fun S3 w3 s3 e3 => ?_)
  refine hh S3 μ2 (w3.trans z2) s3 (fun a ha => (e3 a (by omega)).trans (e2 a (by omega))) (fun a ha => m2 a (by omega)) (fun j j0 j1 => ?_)
  by_cases q : j = 1
  · subst q; exact ⟨(e3 _ (by omega)).trans q2, n2⟩
  · exact ⟨(e3 _ (by omega)).trans ((e2 _ (by omega)).trans (h j j0 (by omega)).1), (m2 _ (by omega)).trans (h j j0 (by omega)).2⟩
set_option maxHeartbeats 4000000 in
set_option maxRecDepth 100000 in
theorem ic1_X8 {P : Pst} (hs : S.1 = x + 1) (hb : S.2 x = some (oS 8 [none, none, some none, none, some none, some none, some none, some none, some none, none, some none, some none, some none, none, some none, some none, some none, none, some none, some none, some none, some none, some none, some none, some none, some none, some none])) (hh : ∀ (S' : Sh) (μ' : Mu), S'.1 = x + 2 → S'.2 x = some (oS 8 [none, none, some (some (x + 1)), none, some none, some none, some none, some none, some none, none, some none, some none, some none, none, some none, some none, some none, none, some none, some none, some none, some none, some none, some none, some none, some none, some none]) → (∀ a, a < x → S'.2 a = S.2 a) → (∀ a, a ≤ x → μ' a = μ a) → (∀ j, 1 ≤ j → j ≤ 1 → S'.2 (x + j) = some (mshp j) ∧ μ' (x + j) = (fun _ => 0)) → V l G cX8_init (yX8_init, 2, none, 1, 21, 144020) P (1, 40) S' μ' 18 [.ref x] []) : V l G cX8_init (yX8_init, 2, none, 1, 21, 144020) P (0, 0) S μ 10 [.ref x] [] := by
  exact in1_X8 hs hb (fun j j0 j1 => absurd j0 (by omega)) hh
set_option maxHeartbeats 4000000 in
set_option maxRecDepth 100000 in
theorem in2_X8 {P : Pst} (hs : S.1 = x + 2) (hb : S.2 x = some (oS 8 [none, none, some (some (x + 1)), none, some none, some none, some none, some none, some none, none, some none, some none, some none, none, some none, some none, some none, none, some none, some none, some none, some none, some none, some none, some none, some none, some none])) (h : ∀ j, 1 ≤ j → j ≤ 1 → S.2 (x + j) = some (mshp j) ∧ μ (x + j) = (fun _ => 0)) (hh : ∀ (S' : Sh) (μ' : Mu), S'.1 = x + 3 → S'.2 x = some (oS 8 [none, none, some (some (x + 1)), none, some (some (x + 2)), some none, some none, some none, some none, none, some none, some none, some none, none, some none, some none, some none, none, some none, some none, some none, some none, some none, some none, some none, some none, some none]) → (∀ a, a < x → S'.2 a = S.2 a) → (∀ a, a ≤ x → μ' a = μ a) → (∀ j, 1 ≤ j → j ≤ 2 → S'.2 (x + j) = some (mshp j) ∧ μ' (x + j) = (fun _ => 0)) → V l G cX8_init (yX8_init, 2, none, 1, 21, 144020) P (2, 100) S' μ' 26 [.ref x] []) : V l G cX8_init (yX8_init, 2, none, 1, 21, 144020) P (1, 40) S μ 18 [.ref x] [] := by
  refine v_aload_n aX8_init_18 rfl ?_
  refine v_bipush (by decide) aX8_init_19 ?_
  refine w_newI (N := 60) (a := x + 2) aX8_init_21 hs rfl (Nat.le_of_ble_eq_true rfl) ⟨Nat.le_of_ble_eq_true rfl, Nat.le_of_ble_eq_true rfl⟩ (fun S2 μ2 z2 q2 e2 n2 m2 => ?_)
  refine w_putFr aX8_init_23 foX8_17 fi8_4 ok8_4 rfl ((e2 x (by omega)).trans hb) (Nat.le_of_ble_eq_true rfl) rfl (fun S3 w3 s3 e3 => ?_)
  refine hh S3 μ2 (w3.trans z2) s3 (fun a ha => (e3 a (by omega)).trans (e2 a (by omega))) (fun a ha => m2 a (by omega)) (fun j j0 j1 => ?_)
  by_cases q : j = 2
  · subst q; exact ⟨(e3 _ (by omega)).trans q2, n2⟩
  · exact ⟨(e3 _ (by omega)).trans ((e2 _ (by omega)).trans (h j j0 (by omega)).1), (m2 _ (by omega)).trans (h j j0 (by omega)).2⟩
set_option maxHeartbeats 4000000 in
set_option maxRecDepth 100000 in
theorem ic2_X8 {P : Pst} (hs : S.1 = x + 1) (hb : S.2 x = some (oS 8 [none, none, some none, none, some none, some none, some none, some none, some none, none, some none, some none, some none, none, some none, some none, some none, none, some none, some none, some none, some none, some none, some none, some none, some none, some none])) (hh : ∀ (S' : Sh) (μ' : Mu), S'.1 = x + 3 → S'.2 x = some (oS 8 [none, none, some (some (x + 1)), none, some (some (x + 2)), some none, some none, some none, some none, none, some none, some none, some none, none, some none, some none, some none, none, some none, some none, some none, some none, some none, some none, some none, some none, some none]) → (∀ a, a < x → S'.2 a = S.2 a) → (∀ a, a ≤ x → μ' a = μ a) → (∀ j, 1 ≤ j → j ≤ 2 → S'.2 (x + j) = some (mshp j) ∧ μ' (x + j) = (fun _ => 0)) → V l G cX8_init (yX8_init, 2, none, 1, 21, 144020) P (2, 100) S' μ' 26 [.ref x] []) : V l G cX8_init (yX8_init, 2, none, 1, 21, 144020) P (0, 0) S μ 10 [.ref x] [] := by
  exact ic1_X8 hs hb (fun S1 μ1 z b e m h => in2_X8 z b h (fun S2 μ2 z2 b2 e2 m2 h2 => hh S2 μ2 z2 b2 (fun a ha => (e2 a ha).trans (e a ha)) (fun a ha => (m2 a ha).trans (m a ha)) h2))
set_option maxHeartbeats 4000000 in
set_option maxRecDepth 100000 in
theorem in3_X8 {P : Pst} (hs : S.1 = x + 3) (hb : S.2 x = some (oS 8 [none, none, some (some (x + 1)), none, some (some (x + 2)), some none, some none, some none, some none, none, some none, some none, some none, none, some none, some none, some none, none, some none, some none, some none, some none, some none, some none, some none, some none, some none])) (h : ∀ j, 1 ≤ j → j ≤ 2 → S.2 (x + j) = some (mshp j) ∧ μ (x + j) = (fun _ => 0)) (hh : ∀ (S' : Sh) (μ' : Mu), S'.1 = x + 4 → S'.2 x = some (oS 8 [none, none, some (some (x + 1)), none, some (some (x + 2)), some (some (x + 3)), some none, some none, some none, none, some none, some none, some none, none, some none, some none, some none, none, some none, some none, some none, some none, some none, some none, some none, some none, some none]) → (∀ a, a < x → S'.2 a = S.2 a) → (∀ a, a ≤ x → μ' a = μ a) → (∀ j, 1 ≤ j → j ≤ 3 → S'.2 (x + j) = some (mshp j) ∧ μ' (x + j) = (fun _ => 0)) → V l G cX8_init (yX8_init, 2, none, 1, 21, 144020) P (3, 106) S' μ' 34 [.ref x] []) : V l G cX8_init (yX8_init, 2, none, 1, 21, 144020) P (2, 100) S μ 26 [.ref x] [] := by
  refine v_aload_n aX8_init_26 rfl ?_
  refine v_bipush (by decide) aX8_init_27 ?_
  refine w_newI (N := 6) (a := x + 3) aX8_init_29 hs rfl (Nat.le_of_ble_eq_true rfl) ⟨Nat.le_of_ble_eq_true rfl, Nat.le_of_ble_eq_true rfl⟩ (fun S2 μ2 z2 q2 e2 n2 m2 => ?_)
  refine w_putFr aX8_init_31 foX8_20 fi8_5 ok8_5 rfl ((e2 x (by omega)).trans hb) (Nat.le_of_ble_eq_true rfl) rfl (fun S3 w3 s3 e3 => ?_)
  refine hh S3 μ2 (w3.trans z2) s3 (fun a ha => (e3 a (by omega)).trans (e2 a (by omega))) (fun a ha => m2 a (by omega)) (fun j j0 j1 => ?_)
  by_cases q : j = 3
  · subst q; exact ⟨(e3 _ (by omega)).trans q2, n2⟩
  · exact ⟨(e3 _ (by omega)).trans ((e2 _ (by omega)).trans (h j j0 (by omega)).1), (m2 _ (by omega)).trans (h j j0 (by omega)).2⟩
set_option maxHeartbeats 4000000 in
set_option maxRecDepth 100000 in
theorem ic3_X8 {P : Pst} (hs : S.1 = x + 1) (hb : S.2 x = some (oS 8 [none, none, some none, none, some none, some none, some none, some none, some none, none, some none, some none, some none, none, some none, some none, some none, none, some none, some none, some none, some none, some none, some none, some none, some none, some none])) (hh : ∀ (S' : Sh) (μ' : Mu), S'.1 = x + 4 → S'.2 x = some (oS 8 [none, none, some (some (x + 1)), none, some (some (x + 2)), some (some (x + 3)), some none, some none, some none, none, some none, some none, some none, none, some none, some none, some none, none, some none, some none, some none, some none, some none, some none, some none, some none, some none]) → (∀ a, a < x → S'.2 a = S.2 a) → (∀ a, a ≤ x → μ' a = μ a) → (∀ j, 1 ≤ j → j ≤ 3 → S'.2 (x + j) = some (mshp j) ∧ μ' (x + j) = (fun _ => 0)) → V l G cX8_init (yX8_init, 2, none, 1, 21, 144020) P (3, 106) S' μ' 34 [.ref x] []) : V l G cX8_init (yX8_init, 2, none, 1, 21, 144020) P (0, 0) S μ 10 [.ref x] [] := by
  exact ic2_X8 hs hb (fun S1 μ1 z b e m h => in3_X8 z b h (fun S2 μ2 z2 b2 e2 m2 h2 => hh S2 μ2 z2 b2 (fun a ha => (e2 a ha).trans (e a ha)) (fun a ha => (m2 a ha).trans (m a ha)) h2))
set_option maxHeartbeats 4000000 in
set_option maxRecDepth 100000 in
theorem in4_X8 {P : Pst} (hs : S.1 = x + 4) (hb : S.2 x = some (oS 8 [none, none, some (some (x + 1)), none, some (some (x + 2)), some (some (x + 3)), some none, some none, some none, none, some none, some none, some none, none, some none, some none, some none, none, some none, some none, some none, some none, some none, some none, some none, some none, some none])) (h : ∀ j, 1 ≤ j → j ≤ 3 → S.2 (x + j) = some (mshp j) ∧ μ (x + j) = (fun _ => 0)) (hh : ∀ (S' : Sh) (μ' : Mu), S'.1 = x + 5 → S'.2 x = some (oS 8 [none, none, some (some (x + 1)), none, some (some (x + 2)), some (some (x + 3)), some (some (x + 4)), some none, some none, none, some none, some none, some none, none, some none, some none, some none, none, some none, some none, some none, some none, some none, some none, some none, some none, some none]) → (∀ a, a < x → S'.2 a = S.2 a) → (∀ a, a ≤ x → μ' a = μ a) → (∀ j, 1 ≤ j → j ≤ 4 → S'.2 (x + j) = some (mshp j) ∧ μ' (x + j) = (fun _ => 0)) → V l G cX8_init (yX8_init, 2, none, 1, 21, 144020) P (4, 112) S' μ' 42 [.ref x] []) : V l G cX8_init (yX8_init, 2, none, 1, 21, 144020) P (3, 106) S μ 34 [.ref x] [] := by
  refine v_aload_n aX8_init_34 rfl ?_
  refine v_bipush (by decide) aX8_init_35 ?_
  refine w_newI (N := 6) (a := x + 4) aX8_init_37 hs rfl (Nat.le_of_ble_eq_true rfl) ⟨Nat.le_of_ble_eq_true rfl, Nat.le_of_ble_eq_true rfl⟩ (fun S2 μ2 z2 q2 e2 n2 m2 => ?_)
  refine w_putFr aX8_init_39 foX8_23 fi8_6 ok8_6 rfl ((e2 x (by omega)).trans hb) (Nat.le_of_ble_eq_true rfl) rfl (fun S3 w3 s3 e3 => ?_)
  refine hh S3 μ2 (w3.trans z2) s3 (fun a ha => (e3 a (by omega)).trans (e2 a (by omega))) (fun a ha => m2 a (by omega)) (fun j j0 j1 => ?_)
  by_cases q : j = 4
  · subst q; exact ⟨(e3 _ (by omega)).trans q2, n2⟩
  · exact ⟨(e3 _ (by omega)).trans ((e2 _ (by omega)).trans (h j j0 (by omega)).1), (m2 _ (by omega)).trans (h j j0 (by omega)).2⟩
set_option maxHeartbeats 4000000 in
set_option maxRecDepth 100000 in
theorem ic4_X8 {P : Pst} (hs : S.1 = x + 1) (hb : S.2 x = some (oS 8 [none, none, some none, none, some none, some none, some none, some none, some none, none, some none, some none, some none, none, some none, some none, some none, none, some none, some none, some none, some none, some none, some none, some none, some none, some none])) (hh : ∀ (S' : Sh) (μ' : Mu), S'.1 = x + 5 → S'.2 x = some (oS 8 [none, none, some (some (x + 1)), none, some (some (x + 2)), some (some (x + 3)), some (some (x + 4)), some none, some none, none, some none, some none, some none, none, some none, some none, some none, none, some none, some none, some none, some none, some none, some none, some none, some none, some none]) → (∀ a, a < x → S'.2 a = S.2 a) → (∀ a, a ≤ x → μ' a = μ a) → (∀ j, 1 ≤ j → j ≤ 4 → S'.2 (x + j) = some (mshp j) ∧ μ' (x + j) = (fun _ => 0)) → V l G cX8_init (yX8_init, 2, none, 1, 21, 144020) P (4, 112) S' μ' 42 [.ref x] []) : V l G cX8_init (yX8_init, 2, none, 1, 21, 144020) P (0, 0) S μ 10 [.ref x] [] := by
  exact ic3_X8 hs hb (fun S1 μ1 z b e m h => in4_X8 z b h (fun S2 μ2 z2 b2 e2 m2 h2 => hh S2 μ2 z2 b2 (fun a ha => (e2 a ha).trans (e a ha)) (fun a ha => (m2 a ha).trans (m a ha)) h2))
set_option maxHeartbeats 4000000 in
set_option maxRecDepth 100000 in
theorem in5_X8 {P : Pst} (hs : S.1 = x + 5) (hb : S.2 x = some (oS 8 [none, none, some (some (x + 1)), none, some (some (x + 2)), some (some (x + 3)), some (some (x + 4)), some none, some none, none, some none, some none, some none, none, some none, some none, some none, none, some none, some none, some none, some none, some none, some none, some none, some none, some none])) (h : ∀ j, 1 ≤ j → j ≤ 4 → S.2 (x + j) = some (mshp j) ∧ μ (x + j) = (fun _ => 0)) (hh : ∀ (S' : Sh) (μ' : Mu), S'.1 = x + 6 → S'.2 x = some (oS 8 [none, none, some (some (x + 1)), none, some (some (x + 2)), some (some (x + 3)), some (some (x + 4)), some (some (x + 5)), some none, none, some none, some none, some none, none, some none, some none, some none, none, some none, some none, some none, some none, some none, some none, some none, some none, some none]) → (∀ a, a < x → S'.2 a = S.2 a) → (∀ a, a ≤ x → μ' a = μ a) → (∀ j, 1 ≤ j → j ≤ 5 → S'.2 (x + j) = some (mshp j) ∧ μ' (x + j) = (fun _ => 0)) → V l G cX8_init (yX8_init, 2, none, 1, 21, 144020) P (5, 118) S' μ' 50 [.ref x] []) : V l G cX8_init (yX8_init, 2, none, 1, 21, 144020) P (4, 112) S μ 42 [.ref x] [] := by
  refine v_aload_n aX8_init_42 rfl ?_
  refine v_bipush (by decide) aX8_init_43 ?_
  refine w_newI (N := 6) (a := x + 5) aX8_init_45 hs rfl (Nat.le_of_ble_eq_true rfl) ⟨Nat.le_of_ble_eq_true rfl, Nat.le_of_ble_eq_true rfl⟩ (fun S2 μ2 z2 q2 e2 n2 m2 => ?_)
  refine w_putFr aX8_init_47 foX8_26 fi8_7 ok8_7 rfl ((e2 x (by omega)).trans hb) (Nat.le_of_ble_eq_true rfl) rfl (fun S3 w3 s3 e3 => ?_)
  refine hh S3 μ2 (w3.trans z2) s3 (fun a ha => (e3 a (by omega)).trans (e2 a (by omega))) (fun a ha => m2 a (by omega)) (fun j j0 j1 => ?_)
  by_cases q : j = 5
  · subst q; exact ⟨(e3 _ (by omega)).trans q2, n2⟩
  · exact ⟨(e3 _ (by omega)).trans ((e2 _ (by omega)).trans (h j j0 (by omega)).1), (m2 _ (by omega)).trans (h j j0 (by omega)).2⟩
set_option maxHeartbeats 4000000 in
set_option maxRecDepth 100000 in
theorem ic5_X8 {P : Pst} (hs : S.1 = x + 1) (hb : S.2 x = some (oS 8 [none, none, some none, none, some none, some none, some none, some none, some none, none, some none, some none, some none, none, some none, some none, some none, none, some none, some none, some none, some none, some none, some none, some none, some none, some none])) (hh : ∀ (S' : Sh) (μ' : Mu), S'.1 = x + 6 → S'.2 x = some (oS 8 [none, none, some (some (x + 1)), none, some (some (x + 2)), some (some (x + 3)), some (some (x + 4)), some (some (x + 5)), some none, none, some none, some none, some none, none, some none, some none, some none, none, some none, some none, some none, some none, some none, some none, some none, some none, some none]) → (∀ a, a < x → S'.2 a = S.2 a) → (∀ a, a ≤ x → μ' a = μ a) → (∀ j, 1 ≤ j → j ≤ 5 → S'.2 (x + j) = some (mshp j) ∧ μ' (x + j) = (fun _ => 0)) → V l G cX8_init (yX8_init, 2, none, 1, 21, 144020) P (5, 118) S' μ' 50 [.ref x] []) : V l G cX8_init (yX8_init, 2, none, 1, 21, 144020) P (0, 0) S μ 10 [.ref x] [] := by
  exact ic4_X8 hs hb (fun S1 μ1 z b e m h => in5_X8 z b h (fun S2 μ2 z2 b2 e2 m2 h2 => hh S2 μ2 z2 b2 (fun a ha => (e2 a ha).trans (e a ha)) (fun a ha => (m2 a ha).trans (m a ha)) h2))
set_option maxHeartbeats 4000000 in
set_option maxRecDepth 100000 in
theorem in6_X8 {P : Pst} (hs : S.1 = x + 6) (hb : S.2 x = some (oS 8 [none, none, some (some (x + 1)), none, some (some (x + 2)), some (some (x + 3)), some (some (x + 4)), some (some (x + 5)), some none, none, some none, some none, some none, none, some none, some none, some none, none, some none, some none, some none, some none, some none, some none, some none, some none, some none])) (h : ∀ j, 1 ≤ j → j ≤ 5 → S.2 (x + j) = some (mshp j) ∧ μ (x + j) = (fun _ => 0)) (hh : ∀ (S' : Sh) (μ' : Mu), S'.1 = x + 7 → S'.2 x = some (oS 8 [none, none, some (some (x + 1)), none, some (some (x + 2)), some (some (x + 3)), some (some (x + 4)), some (some (x + 5)), some (some (x + 6)), none, some none, some none, some none, none, some none, some none, some none, none, some none, some none, some none, some none, some none, some none, some none, some none, some none]) → (∀ a, a < x → S'.2 a = S.2 a) → (∀ a, a ≤ x → μ' a = μ a) → (∀ j, 1 ≤ j → j ≤ 6 → S'.2 (x + j) = some (mshp j) ∧ μ' (x + j) = (fun _ => 0)) → V l G cX8_init (yX8_init, 2, none, 1, 21, 144020) P (6, 124) S' μ' 58 [.ref x] []) : V l G cX8_init (yX8_init, 2, none, 1, 21, 144020) P (5, 118) S μ 50 [.ref x] [] := by
  refine v_aload_n aX8_init_50 rfl ?_
  refine v_bipush (by decide) aX8_init_51 ?_
  refine w_newI (N := 6) (a := x + 6) aX8_init_53 hs rfl (Nat.le_of_ble_eq_true rfl) ⟨Nat.le_of_ble_eq_true rfl, Nat.le_of_ble_eq_true rfl⟩ (fun S2 μ2 z2 q2 e2 n2 m2 => ?_)
  refine w_putFr aX8_init_55 foX8_29 fi8_8 ok8_8 rfl ((e2 x (by omega)).trans hb) (Nat.le_of_ble_eq_true rfl) rfl (fun S3 w3 s3 e3 => ?_)
  refine hh S3 μ2 (w3.trans z2) s3 (fun a ha => (e3 a (by omega)).trans (e2 a (by omega))) (fun a ha => m2 a (by omega)) (fun j j0 j1 => ?_)
  by_cases q : j = 6
  · subst q; exact ⟨(e3 _ (by omega)).trans q2, n2⟩
  · exact ⟨(e3 _ (by omega)).trans ((e2 _ (by omega)).trans (h j j0 (by omega)).1), (m2 _ (by omega)).trans (h j j0 (by omega)).2⟩
set_option maxHeartbeats 4000000 in
set_option maxRecDepth 100000 in
theorem ic6_X8 {P : Pst} (hs : S.1 = x + 1) (hb : S.2 x = some (oS 8 [none, none, some none, none, some none, some none, some none, some none, some none, none, some none, some none, some none, none, some none, some none, some none, none, some none, some none, some none, some none, some none, some none, some none, some none, some none])) (hh : ∀ (S' : Sh) (μ' : Mu), S'.1 = x + 7 → S'.2 x = some (oS 8 [none, none, some (some (x + 1)), none, some (some (x + 2)), some (some (x + 3)), some (some (x + 4)), some (some (x + 5)), some (some (x + 6)), none, some none, some none, some none, none, some none, some none, some none, none, some none, some none, some none, some none, some none, some none, some none, some none, some none]) → (∀ a, a < x → S'.2 a = S.2 a) → (∀ a, a ≤ x → μ' a = μ a) → (∀ j, 1 ≤ j → j ≤ 6 → S'.2 (x + j) = some (mshp j) ∧ μ' (x + j) = (fun _ => 0)) → V l G cX8_init (yX8_init, 2, none, 1, 21, 144020) P (6, 124) S' μ' 58 [.ref x] []) : V l G cX8_init (yX8_init, 2, none, 1, 21, 144020) P (0, 0) S μ 10 [.ref x] [] := by
  exact ic5_X8 hs hb (fun S1 μ1 z b e m h => in6_X8 z b h (fun S2 μ2 z2 b2 e2 m2 h2 => hh S2 μ2 z2 b2 (fun a ha => (e2 a ha).trans (e a ha)) (fun a ha => (m2 a ha).trans (m a ha)) h2))
set_option maxHeartbeats 4000000 in
set_option maxRecDepth 100000 in
theorem in7_X8 {P : Pst} (hs : S.1 = x + 7) (hb : S.2 x = some (oS 8 [none, none, some (some (x + 1)), none, some (some (x + 2)), some (some (x + 3)), some (some (x + 4)), some (some (x + 5)), some (some (x + 6)), none, some none, some none, some none, none, some none, some none, some none, none, some none, some none, some none, some none, some none, some none, some none, some none, some none])) (h : ∀ j, 1 ≤ j → j ≤ 6 → S.2 (x + j) = some (mshp j) ∧ μ (x + j) = (fun _ => 0)) (hh : ∀ (S' : Sh) (μ' : Mu), S'.1 = x + 8 → S'.2 x = some (oS 8 [none, none, some (some (x + 1)), none, some (some (x + 2)), some (some (x + 3)), some (some (x + 4)), some (some (x + 5)), some (some (x + 6)), none, some (some (x + 7)), some none, some none, none, some none, some none, some none, none, some none, some none, some none, some none, some none, some none, some none, some none, some none]) → (∀ a, a < x → S'.2 a = S.2 a) → (∀ a, a ≤ x → μ' a = μ a) → (∀ j, 1 ≤ j → j ≤ 7 → S'.2 (x + j) = some (mshp j) ∧ μ' (x + j) = (fun _ => 0)) → V l G cX8_init (yX8_init, 2, none, 1, 21, 144020) P (7, 130) S' μ' 66 [.ref x] []) : V l G cX8_init (yX8_init, 2, none, 1, 21, 144020) P (6, 124) S μ 58 [.ref x] [] := by
  refine v_aload_n aX8_init_58 rfl ?_
  refine v_bipush (by decide) aX8_init_59 ?_
  refine w_newI (N := 6) (a := x + 7) aX8_init_61 hs rfl (Nat.le_of_ble_eq_true rfl) ⟨Nat.le_of_ble_eq_true rfl, Nat.le_of_ble_eq_true rfl⟩ (fun S2 μ2 z2 q2 e2 n2 m2 => ?_)
  refine w_putFr aX8_init_63 foX8_32 fi8_10 ok8_10 rfl ((e2 x (by omega)).trans hb) (Nat.le_of_ble_eq_true rfl) rfl (fun S3 w3 s3 e3 => ?_)
  refine hh S3 μ2 (w3.trans z2) s3 (fun a ha => (e3 a (by omega)).trans (e2 a (by omega))) (fun a ha => m2 a (by omega)) (fun j j0 j1 => ?_)
  by_cases q : j = 7
  · subst q; exact ⟨(e3 _ (by omega)).trans q2, n2⟩
  · exact ⟨(e3 _ (by omega)).trans ((e2 _ (by omega)).trans (h j j0 (by omega)).1), (m2 _ (by omega)).trans (h j j0 (by omega)).2⟩
set_option maxHeartbeats 4000000 in
set_option maxRecDepth 100000 in
theorem ic7_X8 {P : Pst} (hs : S.1 = x + 1) (hb : S.2 x = some (oS 8 [none, none, some none, none, some none, some none, some none, some none, some none, none, some none, some none, some none, none, some none, some none, some none, none, some none, some none, some none, some none, some none, some none, some none, some none, some none])) (hh : ∀ (S' : Sh) (μ' : Mu), S'.1 = x + 8 → S'.2 x = some (oS 8 [none, none, some (some (x + 1)), none, some (some (x + 2)), some (some (x + 3)), some (some (x + 4)), some (some (x + 5)), some (some (x + 6)), none, some (some (x + 7)), some none, some none, none, some none, some none, some none, none, some none, some none, some none, some none, some none, some none, some none, some none, some none]) → (∀ a, a < x → S'.2 a = S.2 a) → (∀ a, a ≤ x → μ' a = μ a) → (∀ j, 1 ≤ j → j ≤ 7 → S'.2 (x + j) = some (mshp j) ∧ μ' (x + j) = (fun _ => 0)) → V l G cX8_init (yX8_init, 2, none, 1, 21, 144020) P (7, 130) S' μ' 66 [.ref x] []) : V l G cX8_init (yX8_init, 2, none, 1, 21, 144020) P (0, 0) S μ 10 [.ref x] [] := by
  exact ic6_X8 hs hb (fun S1 μ1 z b e m h => in7_X8 z b h (fun S2 μ2 z2 b2 e2 m2 h2 => hh S2 μ2 z2 b2 (fun a ha => (e2 a ha).trans (e a ha)) (fun a ha => (m2 a ha).trans (m a ha)) h2))
set_option maxHeartbeats 4000000 in
set_option maxRecDepth 100000 in
theorem in8_X8 {P : Pst} (hs : S.1 = x + 8) (hb : S.2 x = some (oS 8 [none, none, some (some (x + 1)), none, some (some (x + 2)), some (some (x + 3)), some (some (x + 4)), some (some (x + 5)), some (some (x + 6)), none, some (some (x + 7)), some none, some none, none, some none, some none, some none, none, some none, some none, some none, some none, some none, some none, some none, some none, some none])) (h : ∀ j, 1 ≤ j → j ≤ 7 → S.2 (x + j) = some (mshp j) ∧ μ (x + j) = (fun _ => 0)) (hh : ∀ (S' : Sh) (μ' : Mu), S'.1 = x + 9 → S'.2 x = some (oS 8 [none, none, some (some (x + 1)), none, some (some (x + 2)), some (some (x + 3)), some (some (x + 4)), some (some (x + 5)), some (some (x + 6)), none, some (some (x + 7)), some (some (x + 8)), some none, none, some none, some none, some none, none, some none, some none, some none, some none, some none, some none, some none, some none, some none]) → (∀ a, a < x → S'.2 a = S.2 a) → (∀ a, a ≤ x → μ' a = μ a) → (∀ j, 1 ≤ j → j ≤ 8 → S'.2 (x + j) = some (mshp j) ∧ μ' (x + j) = (fun _ => 0)) → V l G cX8_init (yX8_init, 2, none, 1, 21, 144020) P (8, 166) S' μ' 74 [.ref x] []) : V l G cX8_init (yX8_init, 2, none, 1, 21, 144020) P (7, 130) S μ 66 [.ref x] [] := by
  refine v_aload_n aX8_init_66 rfl ?_
  refine v_bipush (by decide) aX8_init_67 ?_
  refine w_newZ (N := 36) (a := x + 8) aX8_init_69 hs rfl (Nat.le_of_ble_eq_true rfl) ⟨Nat.le_of_ble_eq_true rfl, Nat.le_of_ble_eq_true rfl⟩ (fun S2 μ2 z2 q2 e2 n2 m2 => ?_)
  refine w_putFr aX8_init_71 foX8_35 fi8_11 ok8_11 rfl ((e2 x (by omega)).trans hb) (Nat.le_of_ble_eq_true rfl) rfl (fun S3 w3 s3 e3 => ?_)
  refine hh S3 μ2 (w3.trans z2) s3 (fun a ha => (e3 a (by omega)).trans (e2 a (by omega))) (fun a ha => m2 a (by omega)) (fun j j0 j1 => ?_)
  by_cases q : j = 8
  · subst q; exact ⟨(e3 _ (by omega)).trans q2, n2⟩
  · exact ⟨(e3 _ (by omega)).trans ((e2 _ (by omega)).trans (h j j0 (by omega)).1), (m2 _ (by omega)).trans (h j j0 (by omega)).2⟩
set_option maxHeartbeats 4000000 in
set_option maxRecDepth 100000 in
theorem ic8_X8 {P : Pst} (hs : S.1 = x + 1) (hb : S.2 x = some (oS 8 [none, none, some none, none, some none, some none, some none, some none, some none, none, some none, some none, some none, none, some none, some none, some none, none, some none, some none, some none, some none, some none, some none, some none, some none, some none])) (hh : ∀ (S' : Sh) (μ' : Mu), S'.1 = x + 9 → S'.2 x = some (oS 8 [none, none, some (some (x + 1)), none, some (some (x + 2)), some (some (x + 3)), some (some (x + 4)), some (some (x + 5)), some (some (x + 6)), none, some (some (x + 7)), some (some (x + 8)), some none, none, some none, some none, some none, none, some none, some none, some none, some none, some none, some none, some none, some none, some none]) → (∀ a, a < x → S'.2 a = S.2 a) → (∀ a, a ≤ x → μ' a = μ a) → (∀ j, 1 ≤ j → j ≤ 8 → S'.2 (x + j) = some (mshp j) ∧ μ' (x + j) = (fun _ => 0)) → V l G cX8_init (yX8_init, 2, none, 1, 21, 144020) P (8, 166) S' μ' 74 [.ref x] []) : V l G cX8_init (yX8_init, 2, none, 1, 21, 144020) P (0, 0) S μ 10 [.ref x] [] := by
  exact ic7_X8 hs hb (fun S1 μ1 z b e m h => in8_X8 z b h (fun S2 μ2 z2 b2 e2 m2 h2 => hh S2 μ2 z2 b2 (fun a ha => (e2 a ha).trans (e a ha)) (fun a ha => (m2 a ha).trans (m a ha)) h2))
set_option maxHeartbeats 4000000 in
set_option maxRecDepth 100000 in
theorem in9_X8 {P : Pst} (hs : S.1 = x + 9) (hb : S.2 x = some (oS 8 [none, none, some (some (x + 1)), none, some (some (x + 2)), some (some (x + 3)), some (some (x + 4)), some (some (x + 5)), some (some (x + 6)), none, some (some (x + 7)), some (some (x + 8)), some none, none, some none, some none, some none, none, some none, some none, some none, some none, some none, some none, some none, some none, some none])) (h : ∀ j, 1 ≤ j → j ≤ 8 → S.2 (x + j) = some (mshp j) ∧ μ (x + j) = (fun _ => 0)) (hh : ∀ (S' : Sh) (μ' : Mu), S'.1 = x + 10 → S'.2 x = some (oS 8 [none, none, some (some (x + 1)), none, some (some (x + 2)), some (some (x + 3)), some (some (x + 4)), some (some (x + 5)), some (some (x + 6)), none, some (some (x + 7)), some (some (x + 8)), some (some (x + 9)), none, some none, some none, some none, none, some none, some none, some none, some none, some none, some none, some none, some none, some none]) → (∀ a, a < x → S'.2 a = S.2 a) → (∀ a, a ≤ x → μ' a = μ a) → (∀ j, 1 ≤ j → j ≤ 9 → S'.2 (x + j) = some (mshp j) ∧ μ' (x + j) = (fun _ => 0)) → V l G cX8_init (yX8_init, 2, none, 1, 21, 144020) P (9, 202) S' μ' 82 [.ref x] []) : V l G cX8_init (yX8_init, 2, none, 1, 21, 144020) P (8, 166) S μ 74 [.ref x] [] := by
  refine v_aload_n aX8_init_74 rfl ?_
  refine v_bipush (by decide) aX8_init_75 ?_
  refine w_newZ (N := 36) (a := x + 9) aX8_init_77 hs rfl (Nat.le_of_ble_eq_true rfl) ⟨Nat.le_of_ble_eq_true rfl, Nat.le_of_ble_eq_true rfl⟩ (fun S2 μ2 z2 q2 e2 n2 m2 => ?_)
  refine w_putFr aX8_init_79 foX8_39 fi8_12 ok8_12 rfl ((e2 x (by omega)).trans hb) (Nat.le_of_ble_eq_true rfl) rfl (fun S3 w3 s3 e3 => ?_)
  refine hh S3 μ2 (w3.trans z2) s3 (fun a ha => (e3 a (by omega)).trans (e2 a (by omega))) (fun a ha => m2 a (by omega)) (fun j j0 j1 => ?_)
  by_cases q : j = 9
  · subst q; exact ⟨(e3 _ (by omega)).trans q2, n2⟩
  · exact ⟨(e3 _ (by omega)).trans ((e2 _ (by omega)).trans (h j j0 (by omega)).1), (m2 _ (by omega)).trans (h j j0 (by omega)).2⟩
set_option maxHeartbeats 4000000 in
set_option maxRecDepth 100000 in
theorem ic9_X8 {P : Pst} (hs : S.1 = x + 1) (hb : S.2 x = some (oS 8 [none, none, some none, none, some none, some none, some none, some none, some none, none, some none, some none, some none, none, some none, some none, some none, none, some none, some none, some none, some none, some none, some none, some none, some none, some none])) (hh : ∀ (S' : Sh) (μ' : Mu), S'.1 = x + 10 → S'.2 x = some (oS 8 [none, none, some (some (x + 1)), none, some (some (x + 2)), some (some (x + 3)), some (some (x + 4)), some (some (x + 5)), some (some (x + 6)), none, some (some (x + 7)), some (some (x + 8)), some (some (x + 9)), none, some none, some none, some none, none, some none, some none, some none, some none, some none, some none, some none, some none, some none]) → (∀ a, a < x → S'.2 a = S.2 a) → (∀ a, a ≤ x → μ' a = μ a) → (∀ j, 1 ≤ j → j ≤ 9 → S'.2 (x + j) = some (mshp j) ∧ μ' (x + j) = (fun _ => 0)) → V l G cX8_init (yX8_init, 2, none, 1, 21, 144020) P (9, 202) S' μ' 82 [.ref x] []) : V l G cX8_init (yX8_init, 2, none, 1, 21, 144020) P (0, 0) S μ 10 [.ref x] [] := by
  exact ic8_X8 hs hb (fun S1 μ1 z b e m h => in9_X8 z b h (fun S2 μ2 z2 b2 e2 m2 h2 => hh S2 μ2 z2 b2 (fun a ha => (e2 a ha).trans (e a ha)) (fun a ha => (m2 a ha).trans (m a ha)) h2))
set_option maxHeartbeats 4000000 in
set_option maxRecDepth 100000 in
theorem in10_X8 {P : Pst} (hs : S.1 = x + 10) (hb : S.2 x = some (oS 8 [none, none, some (some (x + 1)), none, some (some (x + 2)), some (some (x + 3)), some (some (x + 4)), some (some (x + 5)), some (some (x + 6)), none, some (some (x + 7)), some (some (x + 8)), some (some (x + 9)), none, some none, some none, some none, none, some none, some none, some none, some none, some none, some none, some none, some none, some none])) (h : ∀ j, 1 ≤ j → j ≤ 9 → S.2 (x + j) = some (mshp j) ∧ μ (x + j) = (fun _ => 0)) (hh : ∀ (S' : Sh) (μ' : Mu), S'.1 = x + 11 → S'.2 x = some (oS 8 [none, none, some (some (x + 1)), none, some (some (x + 2)), some (some (x + 3)), some (some (x + 4)), some (some (x + 5)), some (some (x + 6)), none, some (some (x + 7)), some (some (x + 8)), some (some (x + 9)), none, some (some (x + 10)), some none, some none, none, some none, some none, some none, some none, some none, some none, some none, some none, some none]) → (∀ a, a < x → S'.2 a = S.2 a) → (∀ a, a ≤ x → μ' a = μ a) → (∀ j, 1 ≤ j → j ≤ 10 → S'.2 (x + j) = some (mshp j) ∧ μ' (x + j) = (fun _ => 0)) → V l G cX8_init (yX8_init, 2, none, 1, 21, 144020) P (10, 208) S' μ' 90 [.ref x] []) : V l G cX8_init (yX8_init, 2, none, 1, 21, 144020) P (9, 202) S μ 82 [.ref x] [] := by
  refine v_aload_n aX8_init_82 rfl ?_
  refine v_bipush (by decide) aX8_init_83 ?_
  refine w_newI (N := 6) (a := x + 10) aX8_init_85 hs rfl (Nat.le_of_ble_eq_true rfl) ⟨Nat.le_of_ble_eq_true rfl, Nat.le_of_ble_eq_true rfl⟩ (fun S2 μ2 z2 q2 e2 n2 m2 => ?_)
  refine w_putFr aX8_init_87 foX8_42 fi8_14 ok8_14 rfl ((e2 x (by omega)).trans hb) (Nat.le_of_ble_eq_true rfl) rfl (fun S3 w3 s3 e3 => ?_)
  refine hh S3 μ2 (w3.trans z2) s3 (fun a ha => (e3 a (by omega)).trans (e2 a (by omega))) (fun a ha => m2 a (by omega)) (fun j j0 j1 => ?_)
  by_cases q : j = 10
  · subst q; exact ⟨(e3 _ (by omega)).trans q2, n2⟩
  · exact ⟨(e3 _ (by omega)).trans ((e2 _ (by omega)).trans (h j j0 (by omega)).1), (m2 _ (by omega)).trans (h j j0 (by omega)).2⟩
set_option maxHeartbeats 4000000 in
set_option maxRecDepth 100000 in
theorem ic10_X8 {P : Pst} (hs : S.1 = x + 1) (hb : S.2 x = some (oS 8 [none, none, some none, none, some none, some none, some none, some none, some none, none, some none, some none, some none, none, some none, some none, some none, none, some none, some none, some none, some none, some none, some none, some none, some none, some none])) (hh : ∀ (S' : Sh) (μ' : Mu), S'.1 = x + 11 → S'.2 x = some (oS 8 [none, none, some (some (x + 1)), none, some (some (x + 2)), some (some (x + 3)), some (some (x + 4)), some (some (x + 5)), some (some (x + 6)), none, some (some (x + 7)), some (some (x + 8)), some (some (x + 9)), none, some (some (x + 10)), some none, some none, none, some none, some none, some none, some none, some none, some none, some none, some none, some none]) → (∀ a, a < x → S'.2 a = S.2 a) → (∀ a, a ≤ x → μ' a = μ a) → (∀ j, 1 ≤ j → j ≤ 10 → S'.2 (x + j) = some (mshp j) ∧ μ' (x + j) = (fun _ => 0)) → V l G cX8_init (yX8_init, 2, none, 1, 21, 144020) P (10, 208) S' μ' 90 [.ref x] []) : V l G cX8_init (yX8_init, 2, none, 1, 21, 144020) P (0, 0) S μ 10 [.ref x] [] := by
  exact ic9_X8 hs hb (fun S1 μ1 z b e m h => in10_X8 z b h (fun S2 μ2 z2 b2 e2 m2 h2 => hh S2 μ2 z2 b2 (fun a ha => (e2 a ha).trans (e a ha)) (fun a ha => (m2 a ha).trans (m a ha)) h2))
set_option maxHeartbeats 4000000 in
set_option maxRecDepth 100000 in
theorem in11_X8 {P : Pst} (hs : S.1 = x + 11) (hb : S.2 x = some (oS 8 [none, none, some (some (x + 1)), none, some (some (x + 2)), some (some (x + 3)), some (some (x + 4)), some (some (x + 5)), some (some (x + 6)), none, some (some (x + 7)), some (some (x + 8)), some (some (x + 9)), none, some (some (x + 10)), some none, some none, none, some none, some none, some none, some none, some none, some none, some none, some none, some none])) (h : ∀ j, 1 ≤ j → j ≤ 10 → S.2 (x + j) = some (mshp j) ∧ μ (x + j) = (fun _ => 0)) (hh : ∀ (S' : Sh) (μ' : Mu), S'.1 = x + 12 → S'.2 x = some (oS 8 [none, none, some (some (x + 1)), none, some (some (x + 2)), some (some (x + 3)), some (some (x + 4)), some (some (x + 5)), some (some (x + 6)), none, some (some (x + 7)), some (some (x + 8)), some (some (x + 9)), none, some (some (x + 10)), some (some (x + 11)), some none, none, some none, some none, some none, some none, some none, some none, some none, some none, some none]) → (∀ a, a < x → S'.2 a = S.2 a) → (∀ a, a ≤ x → μ' a = μ a) → (∀ j, 1 ≤ j → j ≤ 11 → S'.2 (x + j) = some (mshp j) ∧ μ' (x + j) = (fun _ => 0)) → V l G cX8_init (yX8_init, 2, none, 1, 21, 144020) P (11, 214) S' μ' 98 [.ref x] []) : V l G cX8_init (yX8_init, 2, none, 1, 21, 144020) P (10, 208) S μ 90 [.ref x] [] := by
  refine v_aload_n aX8_init_90 rfl ?_
  refine v_bipush (by decide) aX8_init_91 ?_
  refine w_newI (N := 6) (a := x + 11) aX8_init_93 hs rfl (Nat.le_of_ble_eq_true rfl) ⟨Nat.le_of_ble_eq_true rfl, Nat.le_of_ble_eq_true rfl⟩ (fun S2 μ2 z2 q2 e2 n2 m2 => ?_)
  refine w_putFr aX8_init_95 foX8_45 fi8_15 ok8_15 rfl ((e2 x (by omega)).trans hb) (Nat.le_of_ble_eq_true rfl) rfl (fun S3 w3 s3 e3 => ?_)
  refine hh S3 μ2 (w3.trans z2) s3 (fun a ha => (e3 a (by omega)).trans (e2 a (by omega))) (fun a ha => m2 a (by omega)) (fun j j0 j1 => ?_)
  by_cases q : j = 11
  · subst q; exact ⟨(e3 _ (by omega)).trans q2, n2⟩
  · exact ⟨(e3 _ (by omega)).trans ((e2 _ (by omega)).trans (h j j0 (by omega)).1), (m2 _ (by omega)).trans (h j j0 (by omega)).2⟩
set_option maxHeartbeats 4000000 in
set_option maxRecDepth 100000 in
theorem ic11_X8 {P : Pst} (hs : S.1 = x + 1) (hb : S.2 x = some (oS 8 [none, none, some none, none, some none, some none, some none, some none, some none, none, some none, some none, some none, none, some none, some none, some none, none, some none, some none, some none, some none, some none, some none, some none, some none, some none])) (hh : ∀ (S' : Sh) (μ' : Mu), S'.1 = x + 12 → S'.2 x = some (oS 8 [none, none, some (some (x + 1)), none, some (some (x + 2)), some (some (x + 3)), some (some (x + 4)), some (some (x + 5)), some (some (x + 6)), none, some (some (x + 7)), some (some (x + 8)), some (some (x + 9)), none, some (some (x + 10)), some (some (x + 11)), some none, none, some none, some none, some none, some none, some none, some none, some none, some none, some none]) → (∀ a, a < x → S'.2 a = S.2 a) → (∀ a, a ≤ x → μ' a = μ a) → (∀ j, 1 ≤ j → j ≤ 11 → S'.2 (x + j) = some (mshp j) ∧ μ' (x + j) = (fun _ => 0)) → V l G cX8_init (yX8_init, 2, none, 1, 21, 144020) P (11, 214) S' μ' 98 [.ref x] []) : V l G cX8_init (yX8_init, 2, none, 1, 21, 144020) P (0, 0) S μ 10 [.ref x] [] := by
  exact ic10_X8 hs hb (fun S1 μ1 z b e m h => in11_X8 z b h (fun S2 μ2 z2 b2 e2 m2 h2 => hh S2 μ2 z2 b2 (fun a ha => (e2 a ha).trans (e a ha)) (fun a ha => (m2 a ha).trans (m a ha)) h2))
set_option maxHeartbeats 4000000 in
set_option maxRecDepth 100000 in
theorem in12_X8 {P : Pst} (hs : S.1 = x + 12) (hb : S.2 x = some (oS 8 [none, none, some (some (x + 1)), none, some (some (x + 2)), some (some (x + 3)), some (some (x + 4)), some (some (x + 5)), some (some (x + 6)), none, some (some (x + 7)), some (some (x + 8)), some (some (x + 9)), none, some (some (x + 10)), some (some (x + 11)), some none, none, some none, some none, some none, some none, some none, some none, some none, some none, some none])) (h : ∀ j, 1 ≤ j → j ≤ 11 → S.2 (x + j) = some (mshp j) ∧ μ (x + j) = (fun _ => 0)) (hh : ∀ (S' : Sh) (μ' : Mu), S'.1 = x + 13 → S'.2 x = some (oS 8 [none, none, some (some (x + 1)), none, some (some (x + 2)), some (some (x + 3)), some (some (x + 4)), some (some (x + 5)), some (some (x + 6)), none, some (some (x + 7)), some (some (x + 8)), some (some (x + 9)), none, some (some (x + 10)), some (some (x + 11)), some (some (x + 12)), none, some none, some none, some none, some none, some none, some none, some none, some none, some none]) → (∀ a, a < x → S'.2 a = S.2 a) → (∀ a, a ≤ x → μ' a = μ a) → (∀ j, 1 ≤ j → j ≤ 12 → S'.2 (x + j) = some (mshp j) ∧ μ' (x + j) = (fun _ => 0)) → V l G cX8_init (yX8_init, 2, none, 1, 21, 144020) P (12, 278) S' μ' 106 [.ref x] []) : V l G cX8_init (yX8_init, 2, none, 1, 21, 144020) P (11, 214) S μ 98 [.ref x] [] := by
  refine v_aload_n aX8_init_98 rfl ?_
  refine v_bipush (by decide) aX8_init_99 ?_
  refine w_newI (N := 64) (a := x + 12) aX8_init_101 hs rfl (Nat.le_of_ble_eq_true rfl) ⟨Nat.le_of_ble_eq_true rfl, Nat.le_of_ble_eq_true rfl⟩ (fun S2 μ2 z2 q2 e2 n2 m2 => ?_)
  refine w_putFr aX8_init_103 foX8_48 fi8_16 ok8_16 rfl ((e2 x (by omega)).trans hb) (Nat.le_of_ble_eq_true rfl) rfl (fun S3 w3 s3 e3 => ?_)
  refine hh S3 μ2 (w3.trans z2) s3 (fun a ha => (e3 a (by omega)).trans (e2 a (by omega))) (fun a ha => m2 a (by omega)) (fun j j0 j1 => ?_)
  by_cases q : j = 12
  · subst q; exact ⟨(e3 _ (by omega)).trans q2, n2⟩
  · exact ⟨(e3 _ (by omega)).trans ((e2 _ (by omega)).trans (h j j0 (by omega)).1), (m2 _ (by omega)).trans (h j j0 (by omega)).2⟩
set_option maxHeartbeats 4000000 in
set_option maxRecDepth 100000 in
theorem ic12_X8 {P : Pst} (hs : S.1 = x + 1) (hb : S.2 x = some (oS 8 [none, none, some none, none, some none, some none, some none, some none, some none, none, some none, some none, some none, none, some none, some none, some none, none, some none, some none, some none, some none, some none, some none, some none, some none, some none])) (hh : ∀ (S' : Sh) (μ' : Mu), S'.1 = x + 13 → S'.2 x = some (oS 8 [none, none, some (some (x + 1)), none, some (some (x + 2)), some (some (x + 3)), some (some (x + 4)), some (some (x + 5)), some (some (x + 6)), none, some (some (x + 7)), some (some (x + 8)), some (some (x + 9)), none, some (some (x + 10)), some (some (x + 11)), some (some (x + 12)), none, some none, some none, some none, some none, some none, some none, some none, some none, some none]) → (∀ a, a < x → S'.2 a = S.2 a) → (∀ a, a ≤ x → μ' a = μ a) → (∀ j, 1 ≤ j → j ≤ 12 → S'.2 (x + j) = some (mshp j) ∧ μ' (x + j) = (fun _ => 0)) → V l G cX8_init (yX8_init, 2, none, 1, 21, 144020) P (12, 278) S' μ' 106 [.ref x] []) : V l G cX8_init (yX8_init, 2, none, 1, 21, 144020) P (0, 0) S μ 10 [.ref x] [] := by
  exact ic11_X8 hs hb (fun S1 μ1 z b e m h => in12_X8 z b h (fun S2 μ2 z2 b2 e2 m2 h2 => hh S2 μ2 z2 b2 (fun a ha => (e2 a ha).trans (e a ha)) (fun a ha => (m2 a ha).trans (m a ha)) h2))
set_option maxHeartbeats 4000000 in
set_option maxRecDepth 100000 in
theorem in13_X8 {P : Pst} (hs : S.1 = x + 13) (hb : S.2 x = some (oS 8 [none, none, some (some (x + 1)), none, some (some (x + 2)), some (some (x + 3)), some (some (x + 4)), some (some (x + 5)), some (some (x + 6)), none, some (some (x + 7)), some (some (x + 8)), some (some (x + 9)), none, some (some (x + 10)), some (some (x + 11)), some (some (x + 12)), none, some none, some none, some none, some none, some none, some none, some none, some none, some none])) (h : ∀ j, 1 ≤ j → j ≤ 12 → S.2 (x + j) = some (mshp j) ∧ μ (x + j) = (fun _ => 0)) (hh : ∀ (S' : Sh) (μ' : Mu), S'.1 = x + 14 → S'.2 x = some (oS 8 [none, none, some (some (x + 1)), none, some (some (x + 2)), some (some (x + 3)), some (some (x + 4)), some (some (x + 5)), some (some (x + 6)), none, some (some (x + 7)), some (some (x + 8)), some (some (x + 9)), none, some (some (x + 10)), some (some (x + 11)), some (some (x + 12)), none, some (some (x + 13)), some none, some none, some none, some none, some none, some none, some none, some none]) → (∀ a, a < x → S'.2 a = S.2 a) → (∀ a, a ≤ x → μ' a = μ a) → (∀ j, 1 ≤ j → j ≤ 13 → S'.2 (x + j) = some (mshp j) ∧ μ' (x + j) = (fun _ => 0)) → V l G cX8_init (yX8_init, 2, none, 1, 21, 144020) P (13, 26278) S' μ' 115 [.ref x] []) : V l G cX8_init (yX8_init, 2, none, 1, 21, 144020) P (12, 278) S μ 106 [.ref x] [] := by
  refine v_aload_n aX8_init_106 rfl ?_
  refine v_sipush (by decide) aX8_init_107 ?_
  refine w_newI (N := 26000) (a := x + 13) aX8_init_110 hs rfl (Nat.le_of_ble_eq_true rfl) ⟨Nat.le_of_ble_eq_true rfl, Nat.le_of_ble_eq_true rfl⟩ (fun S2 μ2 z2 q2 e2 n2 m2 => ?_)
  refine w_putFr aX8_init_112 foX8_51 fi8_18 ok8_18 rfl ((e2 x (by omega)).trans hb) (Nat.le_of_ble_eq_true rfl) rfl (fun S3 w3 s3 e3 => ?_)
  refine hh S3 μ2 (w3.trans z2) s3 (fun a ha => (e3 a (by omega)).trans (e2 a (by omega))) (fun a ha => m2 a (by omega)) (fun j j0 j1 => ?_)
  by_cases q : j = 13
  · subst q; exact ⟨(e3 _ (by omega)).trans q2, n2⟩
  · exact ⟨(e3 _ (by omega)).trans ((e2 _ (by omega)).trans (h j j0 (by omega)).1), (m2 _ (by omega)).trans (h j j0 (by omega)).2⟩
set_option maxHeartbeats 4000000 in
set_option maxRecDepth 100000 in
theorem ic13_X8 {P : Pst} (hs : S.1 = x + 1) (hb : S.2 x = some (oS 8 [none, none, some none, none, some none, some none, some none, some none, some none, none, some none, some none, some none, none, some none, some none, some none, none, some none, some none, some none, some none, some none, some none, some none, some none, some none])) (hh : ∀ (S' : Sh) (μ' : Mu), S'.1 = x + 14 → S'.2 x = some (oS 8 [none, none, some (some (x + 1)), none, some (some (x + 2)), some (some (x + 3)), some (some (x + 4)), some (some (x + 5)), some (some (x + 6)), none, some (some (x + 7)), some (some (x + 8)), some (some (x + 9)), none, some (some (x + 10)), some (some (x + 11)), some (some (x + 12)), none, some (some (x + 13)), some none, some none, some none, some none, some none, some none, some none, some none]) → (∀ a, a < x → S'.2 a = S.2 a) → (∀ a, a ≤ x → μ' a = μ a) → (∀ j, 1 ≤ j → j ≤ 13 → S'.2 (x + j) = some (mshp j) ∧ μ' (x + j) = (fun _ => 0)) → V l G cX8_init (yX8_init, 2, none, 1, 21, 144020) P (13, 26278) S' μ' 115 [.ref x] []) : V l G cX8_init (yX8_init, 2, none, 1, 21, 144020) P (0, 0) S μ 10 [.ref x] [] := by
  exact ic12_X8 hs hb (fun S1 μ1 z b e m h => in13_X8 z b h (fun S2 μ2 z2 b2 e2 m2 h2 => hh S2 μ2 z2 b2 (fun a ha => (e2 a ha).trans (e a ha)) (fun a ha => (m2 a ha).trans (m a ha)) h2))
set_option maxHeartbeats 4000000 in
set_option maxRecDepth 100000 in
theorem in14_X8 {P : Pst} (hs : S.1 = x + 14) (hb : S.2 x = some (oS 8 [none, none, some (some (x + 1)), none, some (some (x + 2)), some (some (x + 3)), some (some (x + 4)), some (some (x + 5)), some (some (x + 6)), none, some (some (x + 7)), some (some (x + 8)), some (some (x + 9)), none, some (some (x + 10)), some (some (x + 11)), some (some (x + 12)), none, some (some (x + 13)), some none, some none, some none, some none, some none, some none, some none, some none])) (h : ∀ j, 1 ≤ j → j ≤ 13 → S.2 (x + j) = some (mshp j) ∧ μ (x + j) = (fun _ => 0)) (hh : ∀ (S' : Sh) (μ' : Mu), S'.1 = x + 15 → S'.2 x = some (oS 8 [none, none, some (some (x + 1)), none, some (some (x + 2)), some (some (x + 3)), some (some (x + 4)), some (some (x + 5)), some (some (x + 6)), none, some (some (x + 7)), some (some (x + 8)), some (some (x + 9)), none, some (some (x + 10)), some (some (x + 11)), some (some (x + 12)), none, some (some (x + 13)), some (some (x + 14)), some none, some none, some none, some none, some none, some none, some none]) → (∀ a, a < x → S'.2 a = S.2 a) → (∀ a, a ≤ x → μ' a = μ a) → (∀ j, 1 ≤ j → j ≤ 14 → S'.2 (x + j) = some (mshp j) ∧ μ' (x + j) = (fun _ => 0)) → V l G cX8_init (yX8_init, 2, none, 1, 21, 144020) P (14, 52278) S' μ' 124 [.ref x] []) : V l G cX8_init (yX8_init, 2, none, 1, 21, 144020) P (13, 26278) S μ 115 [.ref x] [] := by
  refine v_aload_n aX8_init_115 rfl ?_
  refine v_sipush (by decide) aX8_init_116 ?_
  refine w_newI (N := 26000) (a := x + 14) aX8_init_119 hs rfl (Nat.le_of_ble_eq_true rfl) ⟨Nat.le_of_ble_eq_true rfl, Nat.le_of_ble_eq_true rfl⟩ (fun S2 μ2 z2 q2 e2 n2 m2 => ?_)
  refine w_putFr aX8_init_121 foX8_54 fi8_19 ok8_19 rfl ((e2 x (by omega)).trans hb) (Nat.le_of_ble_eq_true rfl) rfl (fun S3 w3 s3 e3 => ?_)
  refine hh S3 μ2 (w3.trans z2) s3 (fun a ha => (e3 a (by omega)).trans (e2 a (by omega))) (fun a ha => m2 a (by omega)) (fun j j0 j1 => ?_)
  by_cases q : j = 14
  · subst q; exact ⟨(e3 _ (by omega)).trans q2, n2⟩
  · exact ⟨(e3 _ (by omega)).trans ((e2 _ (by omega)).trans (h j j0 (by omega)).1), (m2 _ (by omega)).trans (h j j0 (by omega)).2⟩
set_option maxHeartbeats 4000000 in
set_option maxRecDepth 100000 in
theorem ic14_X8 {P : Pst} (hs : S.1 = x + 1) (hb : S.2 x = some (oS 8 [none, none, some none, none, some none, some none, some none, some none, some none, none, some none, some none, some none, none, some none, some none, some none, none, some none, some none, some none, some none, some none, some none, some none, some none, some none])) (hh : ∀ (S' : Sh) (μ' : Mu), S'.1 = x + 15 → S'.2 x = some (oS 8 [none, none, some (some (x + 1)), none, some (some (x + 2)), some (some (x + 3)), some (some (x + 4)), some (some (x + 5)), some (some (x + 6)), none, some (some (x + 7)), some (some (x + 8)), some (some (x + 9)), none, some (some (x + 10)), some (some (x + 11)), some (some (x + 12)), none, some (some (x + 13)), some (some (x + 14)), some none, some none, some none, some none, some none, some none, some none]) → (∀ a, a < x → S'.2 a = S.2 a) → (∀ a, a ≤ x → μ' a = μ a) → (∀ j, 1 ≤ j → j ≤ 14 → S'.2 (x + j) = some (mshp j) ∧ μ' (x + j) = (fun _ => 0)) → V l G cX8_init (yX8_init, 2, none, 1, 21, 144020) P (14, 52278) S' μ' 124 [.ref x] []) : V l G cX8_init (yX8_init, 2, none, 1, 21, 144020) P (0, 0) S μ 10 [.ref x] [] := by
  exact ic13_X8 hs hb (fun S1 μ1 z b e m h => in14_X8 z b h (fun S2 μ2 z2 b2 e2 m2 h2 => hh S2 μ2 z2 b2 (fun a ha => (e2 a ha).trans (e a ha)) (fun a ha => (m2 a ha).trans (m a ha)) h2))
set_option maxHeartbeats 4000000 in
set_option maxRecDepth 100000 in
theorem in15_X8 {P : Pst} (hs : S.1 = x + 15) (hb : S.2 x = some (oS 8 [none, none, some (some (x + 1)), none, some (some (x + 2)), some (some (x + 3)), some (some (x + 4)), some (some (x + 5)), some (some (x + 6)), none, some (some (x + 7)), some (some (x + 8)), some (some (x + 9)), none, some (some (x + 10)), some (some (x + 11)), some (some (x + 12)), none, some (some (x + 13)), some (some (x + 14)), some none, some none, some none, some none, some none, some none, some none])) (h : ∀ j, 1 ≤ j → j ≤ 14 → S.2 (x + j) = some (mshp j) ∧ μ (x + j) = (fun _ => 0)) (hh : ∀ (S' : Sh) (μ' : Mu), S'.1 = x + 16 → S'.2 x = some (oS 8 [none, none, some (some (x + 1)), none, some (some (x + 2)), some (some (x + 3)), some (some (x + 4)), some (some (x + 5)), some (some (x + 6)), none, some (some (x + 7)), some (some (x + 8)), some (some (x + 9)), none, some (some (x + 10)), some (some (x + 11)), some (some (x + 12)), none, some (some (x + 13)), some (some (x + 14)), some (some (x + 15)), some none, some none, some none, some none, some none, some none]) → (∀ a, a < x → S'.2 a = S.2 a) → (∀ a, a ≤ x → μ' a = μ a) → (∀ j, 1 ≤ j → j ≤ 15 → S'.2 (x + j) = some (mshp j) ∧ μ' (x + j) = (fun _ => 0)) → V l G cX8_init (yX8_init, 2, none, 1, 21, 144020) P (15, 78278) S' μ' 133 [.ref x] []) : V l G cX8_init (yX8_init, 2, none, 1, 21, 144020) P (14, 52278) S μ 124 [.ref x] [] := by
  refine v_aload_n aX8_init_124 rfl ?_
  refine v_sipush (by decide) aX8_init_125 ?_
  refine w_newI (N := 26000) (a := x + 15) aX8_init_128 hs rfl (Nat.le_of_ble_eq_true rfl) ⟨Nat.le_of_ble_eq_true rfl, Nat.le_of_ble_eq_true rfl⟩ (fun S2 μ2 z2 q2 e2 n2 m2 => ?_)
  refine w_putFr aX8_init_130 foX8_57 fi8_20 ok8_20 rfl ((e2 x (by omega)).trans hb) (Nat.le_of_ble_eq_true rfl) rfl (fun S3 w3 s3 e3 => ?_)
  refine hh S3 μ2 (w3.trans z2) s3 (fun a ha => (e3 a (by omega)).trans (e2 a (by omega))) (fun a ha => m2 a (by omega)) (fun j j0 j1 => ?_)
  by_cases q : j = 15
  · subst q; exact ⟨(e3 _ (by omega)).trans q2, n2⟩
  · exact ⟨(e3 _ (by omega)).trans ((e2 _ (by omega)).trans (h j j0 (by omega)).1), (m2 _ (by omega)).trans (h j j0 (by omega)).2⟩
set_option maxHeartbeats 4000000 in
set_option maxRecDepth 100000 in
theorem ic15_X8 {P : Pst} (hs : S.1 = x + 1) (hb : S.2 x = some (oS 8 [none, none, some none, none, some none, some none, some none, some none, some none, none, some none, some none, some none, none, some none, some none, some none, none, some none, some none, some none, some none, some none, some none, some none, some none, some none])) (hh : ∀ (S' : Sh) (μ' : Mu), S'.1 = x + 16 → S'.2 x = some (oS 8 [none, none, some (some (x + 1)), none, some (some (x + 2)), some (some (x + 3)), some (some (x + 4)), some (some (x + 5)), some (some (x + 6)), none, some (some (x + 7)), some (some (x + 8)), some (some (x + 9)), none, some (some (x + 10)), some (some (x + 11)), some (some (x + 12)), none, some (some (x + 13)), some (some (x + 14)), some (some (x + 15)), some none, some none, some none, some none, some none, some none]) → (∀ a, a < x → S'.2 a = S.2 a) → (∀ a, a ≤ x → μ' a = μ a) → (∀ j, 1 ≤ j → j ≤ 15 → S'.2 (x + j) = some (mshp j) ∧ μ' (x + j) = (fun _ => 0)) → V l G cX8_init (yX8_init, 2, none, 1, 21, 144020) P (15, 78278) S' μ' 133 [.ref x] []) : V l G cX8_init (yX8_init, 2, none, 1, 21, 144020) P (0, 0) S μ 10 [.ref x] [] := by
  exact ic14_X8 hs hb (fun S1 μ1 z b e m h => in15_X8 z b h (fun S2 μ2 z2 b2 e2 m2 h2 => hh S2 μ2 z2 b2 (fun a ha => (e2 a ha).trans (e a ha)) (fun a ha => (m2 a ha).trans (m a ha)) h2))
set_option maxHeartbeats 4000000 in
set_option maxRecDepth 100000 in
theorem in16_X8 {P : Pst} (hs : S.1 = x + 16) (hb : S.2 x = some (oS 8 [none, none, some (some (x + 1)), none, some (some (x + 2)), some (some (x + 3)), some (some (x + 4)), some (some (x + 5)), some (some (x + 6)), none, some (some (x + 7)), some (some (x + 8)), some (some (x + 9)), none, some (some (x + 10)), some (some (x + 11)), some (some (x + 12)), none, some (some (x + 13)), some (some (x + 14)), some (some (x + 15)), some none, some none, some none, some none, some none, some none])) (h : ∀ j, 1 ≤ j → j ≤ 15 → S.2 (x + j) = some (mshp j) ∧ μ (x + j) = (fun _ => 0)) (hh : ∀ (S' : Sh) (μ' : Mu), S'.1 = x + 17 → S'.2 x = some (oS 8 [none, none, some (some (x + 1)), none, some (some (x + 2)), some (some (x + 3)), some (some (x + 4)), some (some (x + 5)), some (some (x + 6)), none, some (some (x + 7)), some (some (x + 8)), some (some (x + 9)), none, some (some (x + 10)), some (some (x + 11)), some (some (x + 12)), none, some (some (x + 13)), some (some (x + 14)), some (some (x + 15)), some (some (x + 16)), some none, some none, some none, some none, some none]) → (∀ a, a < x → S'.2 a = S.2 a) → (∀ a, a ≤ x → μ' a = μ a) → (∀ j, 1 ≤ j → j ≤ 16 → S'.2 (x + j) = some (mshp j) ∧ μ' (x + j) = (fun _ => 0)) → V l G cX8_init (yX8_init, 2, none, 1, 21, 144020) P (16, 143814) S' μ' 141 [.ref x] []) : V l G cX8_init (yX8_init, 2, none, 1, 21, 144020) P (15, 78278) S μ 133 [.ref x] [] := by
  refine v_aload_n aX8_init_133 rfl ?_
  refine v_ldc kX8_60 aX8_init_134 ?_
  refine w_newI (N := 65536) (a := x + 16) aX8_init_136 hs rfl (Nat.le_of_ble_eq_true rfl) ⟨Nat.le_of_ble_eq_true rfl, Nat.le_of_ble_eq_true rfl⟩ (fun S2 μ2 z2 q2 e2 n2 m2 => ?_)
  refine w_putFr aX8_init_138 foX8_61 fi8_21 ok8_21 rfl ((e2 x (by omega)).trans hb) (Nat.le_of_ble_eq_true rfl) rfl (fun S3 w3 s3 e3 => ?_)
  refine hh S3 μ2 (w3.trans z2) s3 (fun a ha => (e3 a (by omega)).trans (e2 a (by omega))) (fun a ha => m2 a (by omega)) (fun j j0 j1 => ?_)
  by_cases q : j = 16
  · subst q; exact ⟨(e3 _ (by omega)).trans q2, n2⟩
  · exact ⟨(e3 _ (by omega)).trans ((e2 _ (by omega)).trans (h j j0 (by omega)).1), (m2 _ (by omega)).trans (h j j0 (by omega)).2⟩
set_option maxHeartbeats 4000000 in
set_option maxRecDepth 100000 in
theorem ic16_X8 {P : Pst} (hs : S.1 = x + 1) (hb : S.2 x = some (oS 8 [none, none, some none, none, some none, some none, some none, some none, some none, none, some none, some none, some none, none, some none, some none, some none, none, some none, some none, some none, some none, some none, some none, some none, some none, some none])) (hh : ∀ (S' : Sh) (μ' : Mu), S'.1 = x + 17 → S'.2 x = some (oS 8 [none, none, some (some (x + 1)), none, some (some (x + 2)), some (some (x + 3)), some (some (x + 4)), some (some (x + 5)), some (some (x + 6)), none, some (some (x + 7)), some (some (x + 8)), some (some (x + 9)), none, some (some (x + 10)), some (some (x + 11)), some (some (x + 12)), none, some (some (x + 13)), some (some (x + 14)), some (some (x + 15)), some (some (x + 16)), some none, some none, some none, some none, some none]) → (∀ a, a < x → S'.2 a = S.2 a) → (∀ a, a ≤ x → μ' a = μ a) → (∀ j, 1 ≤ j → j ≤ 16 → S'.2 (x + j) = some (mshp j) ∧ μ' (x + j) = (fun _ => 0)) → V l G cX8_init (yX8_init, 2, none, 1, 21, 144020) P (16, 143814) S' μ' 141 [.ref x] []) : V l G cX8_init (yX8_init, 2, none, 1, 21, 144020) P (0, 0) S μ 10 [.ref x] [] := by
  exact ic15_X8 hs hb (fun S1 μ1 z b e m h => in16_X8 z b h (fun S2 μ2 z2 b2 e2 m2 h2 => hh S2 μ2 z2 b2 (fun a ha => (e2 a ha).trans (e a ha)) (fun a ha => (m2 a ha).trans (m a ha)) h2))
set_option maxHeartbeats 4000000 in
set_option maxRecDepth 100000 in
theorem in17_X8 {P : Pst} (hs : S.1 = x + 17) (hb : S.2 x = some (oS 8 [none, none, some (some (x + 1)), none, some (some (x + 2)), some (some (x + 3)), some (some (x + 4)), some (some (x + 5)), some (some (x + 6)), none, some (some (x + 7)), some (some (x + 8)), some (some (x + 9)), none, some (some (x + 10)), some (some (x + 11)), some (some (x + 12)), none, some (some (x + 13)), some (some (x + 14)), some (some (x + 15)), some (some (x + 16)), some none, some none, some none, some none, some none])) (h : ∀ j, 1 ≤ j → j ≤ 16 → S.2 (x + j) = some (mshp j) ∧ μ (x + j) = (fun _ => 0)) (hh : ∀ (S' : Sh) (μ' : Mu), S'.1 = x + 18 → S'.2 x = some (oS 8 [none, none, some (some (x + 1)), none, some (some (x + 2)), some (some (x + 3)), some (some (x + 4)), some (some (x + 5)), some (some (x + 6)), none, some (some (x + 7)), some (some (x + 8)), some (some (x + 9)), none, some (some (x + 10)), some (some (x + 11)), some (some (x + 12)), none, some (some (x + 13)), some (some (x + 14)), some (some (x + 15)), some (some (x + 16)), some (some (x + 17)), some none, some none, some none, some none]) → (∀ a, a < x → S'.2 a = S.2 a) → (∀ a, a ≤ x → μ' a = μ a) → (∀ j, 1 ≤ j → j ≤ 17 → S'.2 (x + j) = some (mshp j) ∧ μ' (x + j) = (fun _ => 0)) → V l G cX8_init (yX8_init, 2, none, 1, 21, 144020) P (17, 143820) S' μ' 149 [.ref x] []) : V l G cX8_init (yX8_init, 2, none, 1, 21, 144020) P (16, 143814) S μ 141 [.ref x] [] := by
  refine v_aload_n aX8_init_141 rfl ?_
  refine v_bipush (by decide) aX8_init_142 ?_
  refine w_newI (N := 6) (a := x + 17) aX8_init_144 hs rfl (Nat.le_of_ble_eq_true rfl) ⟨Nat.le_of_ble_eq_true rfl, Nat.le_of_ble_eq_true rfl⟩ (fun S2 μ2 z2 q2 e2 n2 m2 => ?_)
  refine w_putFr aX8_init_146 foX8_64 fi8_22 ok8_22 rfl ((e2 x (by omega)).trans hb) (Nat.le_of_ble_eq_true rfl) rfl (fun S3 w3 s3 e3 => ?_)
  refine hh S3 μ2 (w3.trans z2) s3 (fun a ha => (e3 a (by omega)).trans (e2 a (by omega))) (fun a ha => m2 a (by omega)) (fun j j0 j1 => ?_)
  by_cases q : j = 17
  · subst q; exact ⟨(e3 _ (by omega)).trans q2, n2⟩
  · exact ⟨(e3 _ (by omega)).trans ((e2 _ (by omega)).trans (h j j0 (by omega)).1), (m2 _ (by omega)).trans (h j j0 (by omega)).2⟩
set_option maxHeartbeats 4000000 in
set_option maxRecDepth 100000 in
theorem ic17_X8 {P : Pst} (hs : S.1 = x + 1) (hb : S.2 x = some (oS 8 [none, none, some none, none, some none, some none, some none, some none, some none, none, some none, some none, some none, none, some none, some none, some none, none, some none, some none, some none, some none, some none, some none, some none, some none, some none])) (hh : ∀ (S' : Sh) (μ' : Mu), S'.1 = x + 18 → S'.2 x = some (oS 8 [none, none, some (some (x + 1)), none, some (some (x + 2)), some (some (x + 3)), some (some (x + 4)), some (some (x + 5)), some (some (x + 6)), none, some (some (x + 7)), some (some (x + 8)), some (some (x + 9)), none, some (some (x + 10)), some (some (x + 11)), some (some (x + 12)), none, some (some (x + 13)), some (some (x + 14)), some (some (x + 15)), some (some (x + 16)), some (some (x + 17)), some none, some none, some none, some none]) → (∀ a, a < x → S'.2 a = S.2 a) → (∀ a, a ≤ x → μ' a = μ a) → (∀ j, 1 ≤ j → j ≤ 17 → S'.2 (x + j) = some (mshp j) ∧ μ' (x + j) = (fun _ => 0)) → V l G cX8_init (yX8_init, 2, none, 1, 21, 144020) P (17, 143820) S' μ' 149 [.ref x] []) : V l G cX8_init (yX8_init, 2, none, 1, 21, 144020) P (0, 0) S μ 10 [.ref x] [] := by
  exact ic16_X8 hs hb (fun S1 μ1 z b e m h => in17_X8 z b h (fun S2 μ2 z2 b2 e2 m2 h2 => hh S2 μ2 z2 b2 (fun a ha => (e2 a ha).trans (e a ha)) (fun a ha => (m2 a ha).trans (m a ha)) h2))
set_option maxHeartbeats 4000000 in
set_option maxRecDepth 100000 in
theorem in18_X8 {P : Pst} (hs : S.1 = x + 18) (hb : S.2 x = some (oS 8 [none, none, some (some (x + 1)), none, some (some (x + 2)), some (some (x + 3)), some (some (x + 4)), some (some (x + 5)), some (some (x + 6)), none, some (some (x + 7)), some (some (x + 8)), some (some (x + 9)), none, some (some (x + 10)), some (some (x + 11)), some (some (x + 12)), none, some (some (x + 13)), some (some (x + 14)), some (some (x + 15)), some (some (x + 16)), some (some (x + 17)), some none, some none, some none, some none])) (h : ∀ j, 1 ≤ j → j ≤ 17 → S.2 (x + j) = some (mshp j) ∧ μ (x + j) = (fun _ => 0)) (hh : ∀ (S' : Sh) (μ' : Mu), S'.1 = x + 19 → S'.2 x = some (oS 8 [none, none, some (some (x + 1)), none, some (some (x + 2)), some (some (x + 3)), some (some (x + 4)), some (some (x + 5)), some (some (x + 6)), none, some (some (x + 7)), some (some (x + 8)), some (some (x + 9)), none, some (some (x + 10)), some (some (x + 11)), some (some (x + 12)), none, some (some (x + 13)), some (some (x + 14)), some (some (x + 15)), some (some (x + 16)), some (some (x + 17)), some (some (x + 18)), some none, some none, some none]) → (∀ a, a < x → S'.2 a = S.2 a) → (∀ a, a ≤ x → μ' a = μ a) → (∀ j, 1 ≤ j → j ≤ 18 → S'.2 (x + j) = some (mshp j) ∧ μ' (x + j) = (fun _ => 0)) → V l G cX8_init (yX8_init, 2, none, 1, 21, 144020) P (18, 143826) S' μ' 157 [.ref x] []) : V l G cX8_init (yX8_init, 2, none, 1, 21, 144020) P (17, 143820) S μ 149 [.ref x] [] := by
  refine v_aload_n aX8_init_149 rfl ?_
  refine v_bipush (by decide) aX8_init_150 ?_
  refine w_newI (N := 6) (a := x + 18) aX8_init_152 hs rfl (Nat.le_of_ble_eq_true rfl) ⟨Nat.le_of_ble_eq_true rfl, Nat.le_of_ble_eq_true rfl⟩ (fun S2 μ2 z2 q2 e2 n2 m2 => ?_)
  refine w_putFr aX8_init_154 foX8_67 fi8_23 ok8_23 rfl ((e2 x (by omega)).trans hb) (Nat.le_of_ble_eq_true rfl) rfl (fun S3 w3 s3 e3 => ?_)
  refine hh S3 μ2 (w3.trans z2) s3 (fun a ha => (e3 a (by omega)).trans (e2 a (by omega))) (fun a ha => m2 a (by omega)) (fun j j0 j1 => ?_)
  by_cases q : j = 18
  · subst q; exact ⟨(e3 _ (by omega)).trans q2, n2⟩
  · exact ⟨(e3 _ (by omega)).trans ((e2 _ (by omega)).trans (h j j0 (by omega)).1), (m2 _ (by omega)).trans (h j j0 (by omega)).2⟩
set_option maxHeartbeats 4000000 in
set_option maxRecDepth 100000 in
theorem ic18_X8 {P : Pst} (hs : S.1 = x + 1) (hb : S.2 x = some (oS 8 [none, none, some none, none, some none, some none, some none, some none, some none, none, some none, some none, some none, none, some none, some none, some none, none, some none, some none, some none, some none, some none, some none, some none, some none, some none])) (hh : ∀ (S' : Sh) (μ' : Mu), S'.1 = x + 19 → S'.2 x = some (oS 8 [none, none, some (some (x + 1)), none, some (some (x + 2)), some (some (x + 3)), some (some (x + 4)), some (some (x + 5)), some (some (x + 6)), none, some (some (x + 7)), some (some (x + 8)), some (some (x + 9)), none, some (some (x + 10)), some (some (x + 11)), some (some (x + 12)), none, some (some (x + 13)), some (some (x + 14)), some (some (x + 15)), some (some (x + 16)), some (some (x + 17)), some (some (x + 18)), some none, some none, some none]) → (∀ a, a < x → S'.2 a = S.2 a) → (∀ a, a ≤ x → μ' a = μ a) → (∀ j, 1 ≤ j → j ≤ 18 → S'.2 (x + j) = some (mshp j) ∧ μ' (x + j) = (fun _ => 0)) → V l G cX8_init (yX8_init, 2, none, 1, 21, 144020) P (18, 143826) S' μ' 157 [.ref x] []) : V l G cX8_init (yX8_init, 2, none, 1, 21, 144020) P (0, 0) S μ 10 [.ref x] [] := by
  exact ic17_X8 hs hb (fun S1 μ1 z b e m h => in18_X8 z b h (fun S2 μ2 z2 b2 e2 m2 h2 => hh S2 μ2 z2 b2 (fun a ha => (e2 a ha).trans (e a ha)) (fun a ha => (m2 a ha).trans (m a ha)) h2))
set_option maxHeartbeats 4000000 in
set_option maxRecDepth 100000 in
theorem in19_X8 {P : Pst} (hs : S.1 = x + 19) (hb : S.2 x = some (oS 8 [none, none, some (some (x + 1)), none, some (some (x + 2)), some (some (x + 3)), some (some (x + 4)), some (some (x + 5)), some (some (x + 6)), none, some (some (x + 7)), some (some (x + 8)), some (some (x + 9)), none, some (some (x + 10)), some (some (x + 11)), some (some (x + 12)), none, some (some (x + 13)), some (some (x + 14)), some (some (x + 15)), some (some (x + 16)), some (some (x + 17)), some (some (x + 18)), some none, some none, some none])) (h : ∀ j, 1 ≤ j → j ≤ 18 → S.2 (x + j) = some (mshp j) ∧ μ (x + j) = (fun _ => 0)) (hh : ∀ (S' : Sh) (μ' : Mu), S'.1 = x + 20 → S'.2 x = some (oS 8 [none, none, some (some (x + 1)), none, some (some (x + 2)), some (some (x + 3)), some (some (x + 4)), some (some (x + 5)), some (some (x + 6)), none, some (some (x + 7)), some (some (x + 8)), some (some (x + 9)), none, some (some (x + 10)), some (some (x + 11)), some (some (x + 12)), none, some (some (x + 13)), some (some (x + 14)), some (some (x + 15)), some (some (x + 16)), some (some (x + 17)), some (some (x + 18)), some (some (x + 19)), some none, some none]) → (∀ a, a < x → S'.2 a = S.2 a) → (∀ a, a ≤ x → μ' a = μ a) → (∀ j, 1 ≤ j → j ≤ 19 → S'.2 (x + j) = some (mshp j) ∧ μ' (x + j) = (fun _ => 0)) → V l G cX8_init (yX8_init, 2, none, 1, 21, 144020) P (19, 143832) S' μ' 165 [.ref x] []) : V l G cX8_init (yX8_init, 2, none, 1, 21, 144020) P (18, 143826) S μ 157 [.ref x] [] := by
  refine v_aload_n aX8_init_157 rfl ?_
  refine v_bipush (by decide) aX8_init_158 ?_
  refine w_newI (N := 6) (a := x + 19) aX8_init_160 hs rfl (Nat.le_of_ble_eq_true rfl) ⟨Nat.le_of_ble_eq_true rfl, Nat.le_of_ble_eq_true rfl⟩ (fun S2 μ2 z2 q2 e2 n2 m2 => ?_)
  refine w_putFr aX8_init_162 foX8_70 fi8_24 ok8_24 rfl ((e2 x (by omega)).trans hb) (Nat.le_of_ble_eq_true rfl) rfl (fun S3 w3 s3 e3 => ?_)
  refine hh S3 μ2 (w3.trans z2) s3 (fun a ha => (e3 a (by omega)).trans (e2 a (by omega))) (fun a ha => m2 a (by omega)) (fun j j0 j1 => ?_)
  by_cases q : j = 19
  · subst q; exact ⟨(e3 _ (by omega)).trans q2, n2⟩
  · exact ⟨(e3 _ (by omega)).trans ((e2 _ (by omega)).trans (h j j0 (by omega)).1), (m2 _ (by omega)).trans (h j j0 (by omega)).2⟩
set_option maxHeartbeats 4000000 in
set_option maxRecDepth 100000 in
theorem ic19_X8 {P : Pst} (hs : S.1 = x + 1) (hb : S.2 x = some (oS 8 [none, none, some none, none, some none, some none, some none, some none, some none, none, some none, some none, some none, none, some none, some none, some none, none, some none, some none, some none, some none, some none, some none, some none, some none, some none])) (hh : ∀ (S' : Sh) (μ' : Mu), S'.1 = x + 20 → S'.2 x = some (oS 8 [none, none, some (some (x + 1)), none, some (some (x + 2)), some (some (x + 3)), some (some (x + 4)), some (some (x + 5)), some (some (x + 6)), none, some (some (x + 7)), some (some (x + 8)), some (some (x + 9)), none, some (some (x + 10)), some (some (x + 11)), some (some (x + 12)), none, some (some (x + 13)), some (some (x + 14)), some (some (x + 15)), some (some (x + 16)), some (some (x + 17)), some (some (x + 18)), some (some (x + 19)), some none, some none]) → (∀ a, a < x → S'.2 a = S.2 a) → (∀ a, a ≤ x → μ' a = μ a) → (∀ j, 1 ≤ j → j ≤ 19 → S'.2 (x + j) = some (mshp j) ∧ μ' (x + j) = (fun _ => 0)) → V l G cX8_init (yX8_init, 2, none, 1, 21, 144020) P (19, 143832) S' μ' 165 [.ref x] []) : V l G cX8_init (yX8_init, 2, none, 1, 21, 144020) P (0, 0) S μ 10 [.ref x] [] := by
  exact ic18_X8 hs hb (fun S1 μ1 z b e m h => in19_X8 z b h (fun S2 μ2 z2 b2 e2 m2 h2 => hh S2 μ2 z2 b2 (fun a ha => (e2 a ha).trans (e a ha)) (fun a ha => (m2 a ha).trans (m a ha)) h2))
set_option maxHeartbeats 4000000 in
set_option maxRecDepth 100000 in
theorem in20_X8 {P : Pst} (hs : S.1 = x + 20) (hb : S.2 x = some (oS 8 [none, none, some (some (x + 1)), none, some (some (x + 2)), some (some (x + 3)), some (some (x + 4)), some (some (x + 5)), some (some (x + 6)), none, some (some (x + 7)), some (some (x + 8)), some (some (x + 9)), none, some (some (x + 10)), some (some (x + 11)), some (some (x + 12)), none, some (some (x + 13)), some (some (x + 14)), some (some (x + 15)), some (some (x + 16)), some (some (x + 17)), some (some (x + 18)), some (some (x + 19)), some none, some none])) (h : ∀ j, 1 ≤ j → j ≤ 19 → S.2 (x + j) = some (mshp j) ∧ μ (x + j) = (fun _ => 0)) (hh : ∀ (S' : Sh) (μ' : Mu), S'.1 = x + 21 → S'.2 x = some (oS 8 [none, none, some (some (x + 1)), none, some (some (x + 2)), some (some (x + 3)), some (some (x + 4)), some (some (x + 5)), some (some (x + 6)), none, some (some (x + 7)), some (some (x + 8)), some (some (x + 9)), none, some (some (x + 10)), some (some (x + 11)), some (some (x + 12)), none, some (some (x + 13)), some (some (x + 14)), some (some (x + 15)), some (some (x + 16)), some (some (x + 17)), some (some (x + 18)), some (some (x + 19)), some (some (x + 20)), some none]) → (∀ a, a < x → S'.2 a = S.2 a) → (∀ a, a ≤ x → μ' a = μ a) → (∀ j, 1 ≤ j → j ≤ 20 → S'.2 (x + j) = some (mshp j) ∧ μ' (x + j) = (fun _ => 0)) → V l G cX8_init (yX8_init, 2, none, 1, 21, 144020) P (20, 144018) S' μ' 174 [.ref x] []) : V l G cX8_init (yX8_init, 2, none, 1, 21, 144020) P (19, 143832) S μ 165 [.ref x] [] := by
  refine v_aload_n aX8_init_165 rfl ?_
  refine v_sipush (by decide) aX8_init_166 ?_
  refine w_newI (N := 186) (a := x + 20) aX8_init_169 hs rfl (Nat.le_of_ble_eq_true rfl) ⟨Nat.le_of_ble_eq_true rfl, Nat.le_of_ble_eq_true rfl⟩ (fun S2 μ2 z2 q2 e2 n2 m2 => ?_)
  refine w_putFr aX8_init_171 foX8_73 fi8_25 ok8_25 rfl ((e2 x (by omega)).trans hb) (Nat.le_of_ble_eq_true rfl) rfl (fun S3 w3 s3 e3 => ?_)
  refine hh S3 μ2 (w3.trans z2) s3 (fun a ha => (e3 a (by omega)).trans (e2 a (by omega))) (fun a ha => m2 a (by omega)) (fun j j0 j1 => ?_)
  by_cases q : j = 20
  · subst q; exact ⟨(e3 _ (by omega)).trans q2, n2⟩
  · exact ⟨(e3 _ (by omega)).trans ((e2 _ (by omega)).trans (h j j0 (by omega)).1), (m2 _ (by omega)).trans (h j j0 (by omega)).2⟩
set_option maxHeartbeats 4000000 in
set_option maxRecDepth 100000 in
theorem ic20_X8 {P : Pst} (hs : S.1 = x + 1) (hb : S.2 x = some (oS 8 [none, none, some none, none, some none, some none, some none, some none, some none, none, some none, some none, some none, none, some none, some none, some none, none, some none, some none, some none, some none, some none, some none, some none, some none, some none])) (hh : ∀ (S' : Sh) (μ' : Mu), S'.1 = x + 21 → S'.2 x = some (oS 8 [none, none, some (some (x + 1)), none, some (some (x + 2)), some (some (x + 3)), some (some (x + 4)), some (some (x + 5)), some (some (x + 6)), none, some (some (x + 7)), some (some (x + 8)), some (some (x + 9)), none, some (some (x + 10)), some (some (x + 11)), some (some (x + 12)), none, some (some (x + 13)), some (some (x + 14)), some (some (x + 15)), some (some (x + 16)), some (some (x + 17)), some (some (x + 18)), some (some (x + 19)), some (some (x + 20)), some none]) → (∀ a, a < x → S'.2 a = S.2 a) → (∀ a, a ≤ x → μ' a = μ a) → (∀ j, 1 ≤ j → j ≤ 20 → S'.2 (x + j) = some (mshp j) ∧ μ' (x + j) = (fun _ => 0)) → V l G cX8_init (yX8_init, 2, none, 1, 21, 144020) P (20, 144018) S' μ' 174 [.ref x] []) : V l G cX8_init (yX8_init, 2, none, 1, 21, 144020) P (0, 0) S μ 10 [.ref x] [] := by
  exact ic19_X8 hs hb (fun S1 μ1 z b e m h => in20_X8 z b h (fun S2 μ2 z2 b2 e2 m2 h2 => hh S2 μ2 z2 b2 (fun a ha => (e2 a ha).trans (e a ha)) (fun a ha => (m2 a ha).trans (m a ha)) h2))
set_option maxHeartbeats 4000000 in
set_option maxRecDepth 100000 in
theorem in21_X8 {P : Pst} (hs : S.1 = x + 21) (hb : S.2 x = some (oS 8 [none, none, some (some (x + 1)), none, some (some (x + 2)), some (some (x + 3)), some (some (x + 4)), some (some (x + 5)), some (some (x + 6)), none, some (some (x + 7)), some (some (x + 8)), some (some (x + 9)), none, some (some (x + 10)), some (some (x + 11)), some (some (x + 12)), none, some (some (x + 13)), some (some (x + 14)), some (some (x + 15)), some (some (x + 16)), some (some (x + 17)), some (some (x + 18)), some (some (x + 19)), some (some (x + 20)), some none])) (h : ∀ j, 1 ≤ j → j ≤ 20 → S.2 (x + j) = some (mshp j) ∧ μ (x + j) = (fun _ => 0)) (hh : ∀ (S' : Sh) (μ' : Mu), S'.1 = x + 22 → S'.2 x = some (oS 8 [none, none, some (some (x + 1)), none, some (some (x + 2)), some (some (x + 3)), some (some (x + 4)), some (some (x + 5)), some (some (x + 6)), none, some (some (x + 7)), some (some (x + 8)), some (some (x + 9)), none, some (some (x + 10)), some (some (x + 11)), some (some (x + 12)), none, some (some (x + 13)), some (some (x + 14)), some (some (x + 15)), some (some (x + 16)), some (some (x + 17)), some (some (x + 18)), some (some (x + 19)), some (some (x + 20)), some (some (x + 21))]) → (∀ a, a < x → S'.2 a = S.2 a) → (∀ a, a ≤ x → μ' a = μ a) → (∀ j, 1 ≤ j → j ≤ 21 → S'.2 (x + j) = some (mshp j) ∧ μ' (x + j) = (fun _ => 0)) → V l G cX8_init (yX8_init, 2, none, 1, 21, 144020) P (21, 144020) S' μ' 181 [.ref x] []) : V l G cX8_init (yX8_init, 2, none, 1, 21, 144020) P (20, 144018) S μ 174 [.ref x] [] := by
  refine v_aload_n aX8_init_174 rfl ?_
  refine v_iconst aX8_init_175 ?_
  refine w_newZ (N := 2) (a := x + 21) aX8_init_176 hs rfl (Nat.le_of_ble_eq_true rfl) ⟨Nat.le_of_ble_eq_true rfl, Nat.le_of_ble_eq_true rfl⟩ (fun S2 μ2 z2 q2 e2 n2 m2 => ?_)
  refine w_putFr aX8_init_178 foX8_76 fi8_26 ok8_26 rfl ((e2 x (by omega)).trans hb) (Nat.le_of_ble_eq_true rfl) rfl (fun S3 w3 s3 e3 => ?_)
  refine hh S3 μ2 (w3.trans z2) s3 (fun a ha => (e3 a (by omega)).trans (e2 a (by omega))) (fun a ha => m2 a (by omega)) (fun j j0 j1 => ?_)
  by_cases q : j = 21
  · subst q; exact ⟨(e3 _ (by omega)).trans q2, n2⟩
  · exact ⟨(e3 _ (by omega)).trans ((e2 _ (by omega)).trans (h j j0 (by omega)).1), (m2 _ (by omega)).trans (h j j0 (by omega)).2⟩
set_option maxHeartbeats 4000000 in
set_option maxRecDepth 100000 in
theorem ic21_X8 {P : Pst} (hs : S.1 = x + 1) (hb : S.2 x = some (oS 8 [none, none, some none, none, some none, some none, some none, some none, some none, none, some none, some none, some none, none, some none, some none, some none, none, some none, some none, some none, some none, some none, some none, some none, some none, some none])) (hh : ∀ (S' : Sh) (μ' : Mu), S'.1 = x + 22 → S'.2 x = some (oS 8 [none, none, some (some (x + 1)), none, some (some (x + 2)), some (some (x + 3)), some (some (x + 4)), some (some (x + 5)), some (some (x + 6)), none, some (some (x + 7)), some (some (x + 8)), some (some (x + 9)), none, some (some (x + 10)), some (some (x + 11)), some (some (x + 12)), none, some (some (x + 13)), some (some (x + 14)), some (some (x + 15)), some (some (x + 16)), some (some (x + 17)), some (some (x + 18)), some (some (x + 19)), some (some (x + 20)), some (some (x + 21))]) → (∀ a, a < x → S'.2 a = S.2 a) → (∀ a, a ≤ x → μ' a = μ a) → (∀ j, 1 ≤ j → j ≤ 21 → S'.2 (x + j) = some (mshp j) ∧ μ' (x + j) = (fun _ => 0)) → V l G cX8_init (yX8_init, 2, none, 1, 21, 144020) P (21, 144020) S' μ' 181 [.ref x] []) : V l G cX8_init (yX8_init, 2, none, 1, 21, 144020) P (0, 0) S μ 10 [.ref x] [] := by
  exact ic20_X8 hs hb (fun S1 μ1 z b e m h => in21_X8 z b h (fun S2 μ2 z2 b2 e2 m2 h2 => hh S2 μ2 z2 b2 (fun a ha => (e2 a ha).trans (e a ha)) (fun a ha => (m2 a ha).trans (m a ha)) h2))
set_option maxHeartbeats 4000000 in
set_option maxRecDepth 100000 in
theorem li_X8_init {μ0 : Mu} {k : Nat × Nat} {P : Pst} (hk : k.1 ≤ 21 ∧ k.2 ≤ 144020) (hM : ModS S x) (hh : ∀ (μ : Mu), (∀ v : Int, 0 ≤ v → v < 6 → μ (x + 4) v = 10 ∧ μ (x + 6) v = 999 ∧ μ (x + 7) v = 50) → (∀ q, q ≠ x + 4 → q ≠ x + 6 → q ≠ x + 7 → μ q = μ0 q) → P none S μ) : ∀ (N : Nat) (i : Int) (μ : Mu), (0 ≤ i ∧ i ≤ 6) → 6 - i < N → (∀ v : Int, 0 ≤ v → v < i → μ (x + 4) v = 10 ∧ μ (x + 6) v = 999 ∧ μ (x + 7) v = 50) → (∀ q, q ≠ x + 4 → q ≠ x + 6 → q ≠ x + 7 → μ q = μ0 q) → V l G cX8_init (yX8_init, 2, none, 1, 21, 144020) P k S μ 183 [.ref x, vi i] [] := by
  intro N
  induction N with
  | zero => intros; omega
  | succ N ih =>
    intro i μ h0 h1 hv hfr
    refine v_iload_n aX8_init_183 rfl ?_
    refine v_bipush (by decide) aX8_init_184 ?_
    refine v_icmp_ge 220 rfl aX8_init_186 (by omega) (by omega) (fun c186 => ?_) (fun c186 => ?_)
    · --
      refine v_return aX8_init_220 rfl hk ?_
      exact hh μ (fun v v0 v1 => hv v v0 (by omega)) hfr
    · --
      refine v_aload_n aX8_init_189 rfl ?_
      refine v_getr aX8_init_190 fX8_23 hM.p rfl rfl ?_
      refine v_iload_n aX8_init_193 rfl ?_
      refine v_bipush (by decide) aX8_init_194 ?_
      refine v_iast aX8_init_196 hM.p_tolls (by omega) (by decide) ?_
      refine v_aload_n aX8_init_197 rfl ?_
      refine v_getr aX8_init_198 fX8_29 hM.p rfl rfl ?_
      refine v_iload_n aX8_init_201 rfl ?_
      refine v_sipush (by decide) aX8_init_202 ?_
      refine v_iast aX8_init_205 hM.p_high (by omega) (by decide) ?_
      refine v_aload_n aX8_init_206 rfl ?_
      refine v_getr aX8_init_207 fX8_32 hM.p rfl rfl ?_
      refine v_iload_n aX8_init_210 rfl ?_
      refine v_bipush (by decide) aX8_init_211 ?_
      refine v_iast aX8_init_213 hM.p_weights (by omega) (by decide) ?_
      refine v_iinc aX8_init_214 rfl (by decide) rfl ?_
      refine v_goto 183 rfl aX8_init_217 ?_
      refine ih (i + 1) _ (by omega) (by omega) (fun v v0 v1 => ?_) (fun q q0 q1 q2 => (upd2_row q2).trans ((upd2_row q1).trans ((upd2_row q0).trans (hfr q q0 q1 q2))))
      have g4 : upd2 (upd2 (upd2 μ (x + 4) i 10) (x + 6) i 999) (x + 7) i 50 (x + 4) v = if v = i then 10 else μ (x + 4) v := by
        rw [upd2_row (show x + 4 ≠ x + 7 by omega), upd2_row (show x + 4 ≠ x + 6 by omega), upd2_iup, row_same]; rfl
      have g6 : upd2 (upd2 (upd2 μ (x + 4) i 10) (x + 6) i 999) (x + 7) i 50 (x + 6) v = if v = i then 999 else μ (x + 6) v := by
        rw [upd2_row (show x + 6 ≠ x + 7 by omega), upd2_iup, row_same, upd2_row (show x + 6 ≠ x + 4 by omega)]; rfl
      have g7 : upd2 (upd2 (upd2 μ (x + 4) i 10) (x + 6) i 999) (x + 7) i 50 (x + 7) v = if v = i then 50 else μ (x + 7) v := by
        rw [upd2_iup, row_same, upd2_row (show x + 7 ≠ x + 6 by omega), upd2_row (show x + 7 ≠ x + 4 by omega)]; rfl
      rw [g4, g6, g7]
      by_cases e : v = i
      · rw [if_pos e, if_pos e, if_pos e]; exact ⟨rfl, rfl, rfl⟩
      · rw [if_neg e, if_neg e, if_neg e]; exact hv v v0 (by omega)
set_option maxHeartbeats 4000000 in
set_option maxRecDepth 100000 in
theorem c_X8_init (hS1 : S.1 = x + 1) (hb : S.2 x = some (oS 8 [none, none, some none, none, some none, some none, some none, some none, some none, none, some none, some none, some none, none, some none, some none, some none, none, some none, some none, some none, some none, some none, some none, some none, some none, some none])) (hμ : μ x = fun _ => 0) : Ct l G cX8_init (yX8_init, 2, none, 1, 21, 144020) [.ref x] S μ (Mk S μ x 22 (fun S' μ' => ModS S' x ∧ MoAt μ' x bk0 (fun _ => 0) 0 ∧ μ' (x + 21) = fun _ => 0)) := by
  refine Ct.of (by decide) rfl (by simp [vi, Value.category]) (Nat.le_of_ble_eq_true rfl) ?_
  refine v_aload_n aX8_init_0 rfl ?_
  refine v_objInit aX8_init_1 loX8_1 w_obi w_obc (Nat.le_of_ble_eq_true rfl) (Nat.le_of_ble_eq_true rfl) ?_
  refine v_aload_n aX8_init_4 rfl ?_
  refine v_bipush (by decide) aX8_init_5 ?_
  refine v_pi 0 rfl aX8_init_7 fX8_7 nf8_0 ok8_0 hb rfl rfl ?_
  refine ic21_X8 hS1 hb (fun S21 μ21 z21 b21 e21 m21 h21 => ?_)
  have hM : ModS S21 x := ⟨b21, (h21 1 (by decide) (by decide)).1, (h21 2 (by decide) (by decide)).1, (h21 3 (by decide) (by decide)).1, (h21 4 (by decide) (by decide)).1, (h21 5 (by decide) (by decide)).1, (h21 6 (by decide) (by decide)).1, (h21 7 (by decide) (by decide)).1, (h21 8 (by decide) (by decide)).1, (h21 9 (by decide) (by decide)).1, (h21 10 (by decide) (by decide)).1, (h21 11 (by decide) (by decide)).1, (h21 12 (by decide) (by decide)).1, (h21 13 (by decide) (by decide)).1, (h21 14 (by decide) (by decide)).1, (h21 15 (by decide) (by decide)).1, (h21 16 (by decide) (by decide)).1, (h21 17 (by decide) (by decide)).1, (h21 18 (by decide) (by decide)).1, (h21 19 (by decide) (by decide)).1, (h21 20 (by decide) (by decide)).1, (h21 21 (by decide) (by decide)).1⟩
  have hx : ∀ a, a ≤ x → μ21 a = upd2 μ x 0 6 a := fun a ha => m21 a ha
  refine v_iconst aX8_init_181 ?_
  refine v_istore_n aX8_init_182 (by decide) rfl ?_
  refine li_X8_init (μ0 := μ21) ⟨Nat.le_of_ble_eq_true rfl, Nat.le_of_ble_eq_true rfl⟩ hM (fun μ3 h1 h2 => ?_) 7 0 μ21 (by omega) (by omega) (fun v v0 v1 => absurd v0 (by omega)) (fun q _ _ _ => rfl)
  have hr : ∀ j, 1 ≤ j → j ≤ 21 → j ≠ 4 → j ≠ 6 → j ≠ 7 → μ3 (x + j) = (fun _ => 0) := fun j j0 j1 a1 a2 a3 => (h2 _ (by omega) (by omega) (by omega)).trans (h21 j j0 j1).2
  have hx3 : μ3 x = upd2 μ x 0 6 x := (h2 x (by omega) (by omega) (by omega)).trans (hx x (Nat.le_refl _))
  refine ⟨rfl, z21, fun a ha => e21 a ha, fun a ha => (h2 a (by omega) (by omega) (by omega)).trans ((hx a (by omega)).trans (upd2_row (by omega))), hM, ⟨⟨?_, ?_, ?_, fun z _ _ => by rw [hr 2 (by decide) (by decide) (by decide) (by decide) (by decide)]; rfl, fun z _ _ => by rw [hr 3 (by decide) (by decide) (by decide) (by decide) (by decide)]; rfl, fun z _ _ => by rw [hr 5 (by decide) (by decide) (by decide) (by decide) (by decide)]; rfl, fun z z0 z1 => (h1 z z0 z1).2.1, fun z z0 z1 => (h1 z z0 z1).1, fun z z0 z1 => (h1 z z0 z1).2.2⟩, hr 1 (by decide) (by decide) (by decide) (by decide) (by decide), ?_⟩, hr 21 (by decide) (by decide) (by decide) (by decide) (by decide)⟩
  · rw [hx3, upd2_same]; rfl
  · rw [hx3, upd2_ap, if_neg (by omega), hμ]; rfl
  · rw [hx3, upd2_ap, if_neg (by omega), hμ]; rfl
  · rw [hx3, upd2_ap, if_neg (by omega), hμ]
end IN8
