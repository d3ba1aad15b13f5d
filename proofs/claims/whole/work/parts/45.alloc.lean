/-! making cells: rows with the new memory left open; the constructors -/
section AL
variable {l : Launch} {G : Glb} {cc : ByteArray} {F : Frm} {P : Pst} {k : Nat × Nat} {S : Sh} {μ : Mu} {pc n idx : Nat} {L st : List Value} {a : Nat}
theorem w_newI {N : Nat} {z : Int} (hd : At cc pc (.newarray .int) 2 n) (hs : S.1 = a) (hz : z = (N : Int)) (hN : N ≤ 65536) (hm : k.1 + 1 ≤ F.2.2.2.2.1 ∧ k.2 + N ≤ F.2.2.2.2.2) (h : ∀ (S' : Sh) (μ' : Mu), S'.1 = a + 1 → S'.2 a = some (aI N) → (∀ q, q ≠ a → S'.2 q = S.2 q) → μ' a = (fun _ => 0) → (∀ q, q ≠ a → μ' q = μ q) → V l G cc F P (k.1 + 1, k.2 + N) S' μ' n L (.ref a :: st)) : V l G cc F P k S μ pc L (vi z :: st) := by
  subst hs hz
  exact v_newI hd (by omega) hm w_aI (h (snew S (aI N)) (mnew S μ) rfl (if_pos rfl) (fun q hq => if_neg hq) (if_pos rfl) (fun q hq => if_neg hq))
theorem w_newZ {N : Nat} {z : Int} (hd : At cc pc (.newarray .boolean) 2 n) (hs : S.1 = a) (hz : z = (N : Int)) (hN : N ≤ 65536) (hm : k.1 + 1 ≤ F.2.2.2.2.1 ∧ k.2 + N ≤ F.2.2.2.2.2) (h : ∀ (S' : Sh) (μ' : Mu), S'.1 = a + 1 → S'.2 a = some (aZ N) → (∀ q, q ≠ a → S'.2 q = S.2 q) → μ' a = (fun _ => 0) → (∀ q, q ≠ a → μ' q = μ q) → V l G cc F P (k.1 + 1, k.2 + N) S' μ' n L (.ref a :: st)) : V l G cc F P k S μ pc L (vi z :: st) := by
  subst hs hz
  exact v_newZ hd (by omega) hm w_aZ (h (snew S (aZ N)) (mnew S μ) rfl (if_pos rfl) (fun q hq => if_neg hq) (if_pos rfl) (fun q hq => if_neg hq))
theorem w_newR {N kk : Nat} {z : Int} {C : String} (hd : At cc pc (.anewarray idx) 3 n) (hs : S.1 = a) (hk : kTy kk = some (.object C)) (hz : z = (N : Int)) (hw : Cond.classLink F.1.cls idx C ∈ TBL) (hw2 : Cond.arrayOver (.object C) ∈ NST) (hN : N ≤ 65536) (hm : k.1 + 1 ≤ F.2.2.2.2.1 ∧ k.2 + N ≤ F.2.2.2.2.2) (h : ∀ (S' : Sh) (μ' : Mu), S'.1 = a + 1 → S'.2 a = some (aR kk N (fun _ => none)) → (∀ q, q ≠ a → S'.2 q = S.2 q) → μ' a = (fun _ => 0) → (∀ q, q ≠ a → μ' q = μ q) → V l G cc F P (k.1 + 1, k.2 + N) S' μ' n L (.ref a :: st)) : V l G cc F P k S μ pc L (vi z :: st) := by
  subst hs hz
  exact v_newR hd hk (by omega) hm hw hw2 (h (snew S (aR kk N (fun _ => none))) (mnew S μ) rfl (if_pos rfl) (fun q hq => if_neg hq) (if_pos rfl) (fun q hq => if_neg hq))
theorem w_newM {N M : Nat} {z w : Int} (hd : At cc pc (.multianewarray idx 2) 4 n) (hs : S.1 = a) (hz : z = (N : Int)) (hw : w = (M : Int)) (hN : N ≤ 65536) (hM : M ≤ 65536) (hm : k.1 + (1 + N) ≤ F.2.2.2.2.1 ∧ k.2 + (N + N * M) ≤ F.2.2.2.2.2) (hl : Cond.classLink F.1.cls idx "[[I" ∈ TBL) (h : ∀ (S' : Sh) (μ' : Mu), S'.1 = a + 1 + N → S'.2 a = some (aR 102 N (fun i => if i < N then some (a + 1 + i) else none)) → (∀ i, i < N → S'.2 (a + 1 + i) = some (aI M)) → (∀ q, (q < a ∨ a + 1 + N ≤ q) → S'.2 q = S.2 q) → (∀ q, a ≤ q → μ' q = (fun _ => 0)) → (∀ q, q < a → μ' q = μ q) → V l G cc F P (k.1 + 1 + N, k.2 + N + N * M) S' μ' n L (.ref a :: st)) : V l G cc F P k S μ pc L (vi w :: vi z :: st) := by
  subst hs hz hw
  exact v_newM hd (by omega) (by omega) hm hl w_oI w_aI (h (snewM S N M) (mnewM S μ) rfl (if_pos rfl) (fun i hi => (if_neg (by omega)).trans (if_pos (by omega))) (fun q hq => (if_neg (by omega)).trans (if_neg (by omega))) (fun q hq => if_pos hq) (fun q hq => if_neg (by omega)))
theorem w_putFr {b q ci f : Nat} {sl sl' : List (Option (Option Nat))} (hd : At cc pc (.putfield idx) 3 n) (hF : FlO F.1.cls idx ci f) (hN : Fin F.1.cls ci f) (hO : Ok ci f (.ref q)) (hin2 : F.1.name = "<init>") (hS : S.2 b = some (oS ci sl)) (hf : f < sl.length) (hl : sl.set f (some (some q)) = sl') (h : ∀ S' : Sh, S'.1 = S.1 → S'.2 b = some (oS ci sl') → (∀ r, r ≠ b → S'.2 r = S.2 r) → V l G cc F P k S' μ n L st) : V l G cc F P k S μ pc L (.ref q :: .ref b :: st) := v_putFr hd hF hN hO hin2 hS rfl (h (sput S b (rput (oS ci sl) f (some q))) rfl ((if_pos rfl).trans (by rw [oS_rput hf, hl])) (fun r hr => if_neg hr))
end AL
/-- what a constructor leaves: N cells from b on, below nothing changed -/
def Mk (S : Sh) (μ : Mu) (b N : Nat) (Q : Sh → Mu → Prop) : Pst := fun r S' μ' => r = none ∧ S'.1 = b + N ∧ (∀ q, q < b → S'.2 q = S.2 q) ∧ (∀ q, q < b → μ' q = μ q) ∧ Q S' μ'
section CTOR
variable {l : Launch} {G : Glb} {S : Sh} {μ : Mu} {b : Nat}
set_option maxHeartbeats 4000000 in
set_option maxRecDepth 100000 in
theorem c_X2_init (hS1 : S.1 = b + 1) (hb : S.2 b = some (oS 2 [some none, none])) (hμ : μ b = fun _ => 0) : Ct l G cX2_init (yX2_init, 1, none, 1, 1, 40) [.ref b] S μ (Mk S μ b 2 (fun S' μ' => PadS S' b ∧ μ' b 1 = 0 ∧ μ' (b + 1) = fun _ => 0)) := by
  refine Ct.of (by decide) rfl (by simp [vi, Value.category]) (Nat.le_of_ble_eq_true rfl) ?_
  refine v_aload_n aX2_init_0 rfl ?_
  refine v_objInit aX2_init_1 loX2_3 w_obi w_obc (Nat.le_of_ble_eq_true rfl) (Nat.le_of_ble_eq_true rfl) ?_
  refine v_aload_n aX2_init_4 rfl ?_
  refine v_bipush (by decide) aX2_init_5 ?_
  refine w_newI (N := 40) (a := b + 1) aX2_init_7 hS1 rfl (Nat.le_of_ble_eq_true rfl) ⟨Nat.le_of_ble_eq_true rfl, Nat.le_of_ble_eq_true rfl⟩ (fun S1 μ1 z1 s1 e1 n1 m1 => ?_)
  have hb1 : S1.2 b = some (oS 2 [some none, none]) := (e1 _ (by omega)).trans hb
  refine w_putFr aX2_init_9 foX2_9 fi2_0 ok2_0 rfl hb1 (Nat.le_of_ble_eq_true rfl) rfl (fun S2 y2 s2 e2 => ?_)
  have z2 : S2.1 = b + 2 := y2.trans z1
  have hb2 : S2.2 b = some (oS 2 [some (some (b + 1)), none]) := s2
  refine v_aload_n aX2_init_12 rfl ?_
  refine v_iconst aX2_init_13 ?_
  refine v_pi 1 rfl aX2_init_14 fX2_15 nf2_1 ok2_1 hb2 rfl rfl ?_
  refine v_return aX2_init_17 rfl ⟨Nat.le_refl _, Nat.le_refl _⟩ ?_
  exact ⟨rfl, z2, fun q hq => (e2 _ (by omega)).trans ((e1 _ (by omega)).trans (rfl)), fun q hq => (upd2_row (by omega)).trans ((m1 _ (by omega)).trans (rfl)), ⟨hb2, (e2 _ (by omega)).trans (s1)⟩, upd2_same, (upd2_row (by omega)).trans (n1)⟩
set_option maxHeartbeats 4000000 in
set_option maxRecDepth 100000 in
theorem c_X4_init (hS1 : S.1 = b + 1) (hb : S.2 b = some (oS 4 [some none, some none, none, none, none])) (hμ : μ b = fun _ => 0) : Ct l G cX4_init (yX4_init, 1, none, 1, 2, 70) [.ref b] S μ (Mk S μ b 3 (fun S' μ' => RelS S' b ∧ True)) := by
  refine Ct.of (by decide) rfl (by simp [vi, Value.category]) (Nat.le_of_ble_eq_true rfl) ?_
  refine v_aload_n aX4_init_0 rfl ?_
  refine v_objInit aX4_init_1 loX4_3 w_obi w_obc (Nat.le_of_ble_eq_true rfl) (Nat.le_of_ble_eq_true rfl) ?_
  refine v_aload_n aX4_init_4 rfl ?_
  refine v_bipush (by decide) aX4_init_5 ?_
  refine w_newI (N := 6) (a := b + 1) aX4_init_7 hS1 rfl (Nat.le_of_ble_eq_true rfl) ⟨Nat.le_of_ble_eq_true rfl, Nat.le_of_ble_eq_true rfl⟩ (fun S1 μ1 z1 s1 e1 n1 m1 => ?_)
  have hb1 : S1.2 b = some (oS 4 [some none, some none, none, none, none]) := (e1 _ (by omega)).trans hb
  refine w_putFr aX4_init_9 foX4_9 fi4_0 ok4_0 rfl hb1 (Nat.le_of_ble_eq_true rfl) rfl (fun S2 y2 s2 e2 => ?_)
  have z2 : S2.1 = b + 2 := y2.trans z1
  have hb2 : S2.2 b = some (oS 4 [some (some (b + 1)), some none, none, none, none]) := s2
  refine v_aload_n aX4_init_12 rfl ?_
  refine v_bipush (by decide) aX4_init_13 ?_
  refine w_newI (N := 64) (a := b + 2) aX4_init_15 z2 rfl (Nat.le_of_ble_eq_true rfl) ⟨Nat.le_of_ble_eq_true rfl, Nat.le_of_ble_eq_true rfl⟩ (fun S3 μ3 z3 s3 e3 n3 m3 => ?_)
  have hb3 : S3.2 b = some (oS 4 [some (some (b + 1)), some none, none, none, none]) := (e3 _ (by omega)).trans hb2
  refine w_putFr aX4_init_17 foX4_15 fi4_1 ok4_1 rfl hb3 (Nat.le_of_ble_eq_true rfl) rfl (fun S4 y4 s4 e4 => ?_)
  have z4 : S4.1 = b + 3 := y4.trans z3
  have hb4 : S4.2 b = some (oS 4 [some (some (b + 1)), some (some (b + 2)), none, none, none]) := s4
  refine v_return aX4_init_20 rfl ⟨Nat.le_refl _, Nat.le_refl _⟩ ?_
  exact ⟨rfl, z4, fun q hq => (e4 _ (by omega)).trans ((e3 _ (by omega)).trans ((e2 _ (by omega)).trans ((e1 _ (by omega)).trans (rfl)))), fun q hq => (m3 _ (by omega)).trans ((m1 _ (by omega)).trans (rfl)), ⟨hb4, (e4 _ (by omega)).trans ((e3 _ (by omega)).trans ((e2 _ (by omega)).trans (s1))), (e4 _ (by omega)).trans (s3)⟩, trivial⟩
set_option maxHeartbeats 4000000 in
set_option maxRecDepth 100000 in
theorem c_X5_init (hS1 : S.1 = b + 1) (hb : S.2 b = some (oS 5 [some none, some none, none])) (hμ : μ b = fun _ => 0) : Ct l G cX5_init (yX5_init, 1, none, 1, 2, 12) [.ref b] S μ (Mk S μ b 3 (fun S' μ' => SpnS S' b ∧ True)) := by
  refine Ct.of (by decide) rfl (by simp [vi, Value.category]) (Nat.le_of_ble_eq_true rfl) ?_
  refine v_aload_n aX5_init_0 rfl ?_
  refine v_objInit aX5_init_1 loX5_3 w_obi w_obc (Nat.le_of_ble_eq_true rfl) (Nat.le_of_ble_eq_true rfl) ?_
  refine v_aload_n aX5_init_4 rfl ?_
  refine v_bipush (by decide) aX5_init_5 ?_
  refine w_newI (N := 6) (a := b + 1) aX5_init_7 hS1 rfl (Nat.le_of_ble_eq_true rfl) ⟨Nat.le_of_ble_eq_true rfl, Nat.le_of_ble_eq_true rfl⟩ (fun S1 μ1 z1 s1 e1 n1 m1 => ?_)
  have hb1 : S1.2 b = some (oS 5 [some none, some none, none]) := (e1 _ (by omega)).trans hb
  refine w_putFr aX5_init_9 foX5_9 fi5_0 ok5_0 rfl hb1 (Nat.le_of_ble_eq_true rfl) rfl (fun S2 y2 s2 e2 => ?_)
  have z2 : S2.1 = b + 2 := y2.trans z1
  have hb2 : S2.2 b = some (oS 5 [some (some (b + 1)), some none, none]) := s2
  refine v_aload_n aX5_init_12 rfl ?_
  refine v_bipush (by decide) aX5_init_13 ?_
  refine w_newI (N := 6) (a := b + 2) aX5_init_15 z2 rfl (Nat.le_of_ble_eq_true rfl) ⟨Nat.le_of_ble_eq_true rfl, Nat.le_of_ble_eq_true rfl⟩ (fun S3 μ3 z3 s3 e3 n3 m3 => ?_)
  have hb3 : S3.2 b = some (oS 5 [some (some (b + 1)), some none, none]) := (e3 _ (by omega)).trans hb2
  refine w_putFr aX5_init_17 foX5_15 fi5_1 ok5_1 rfl hb3 (Nat.le_of_ble_eq_true rfl) rfl (fun S4 y4 s4 e4 => ?_)
  have z4 : S4.1 = b + 3 := y4.trans z3
  have hb4 : S4.2 b = some (oS 5 [some (some (b + 1)), some (some (b + 2)), none]) := s4
  refine v_return aX5_init_20 rfl ⟨Nat.le_refl _, Nat.le_refl _⟩ ?_
  exact ⟨rfl, z4, fun q hq => (e4 _ (by omega)).trans ((e3 _ (by omega)).trans ((e2 _ (by omega)).trans ((e1 _ (by omega)).trans (rfl)))), fun q hq => (m3 _ (by omega)).trans ((m1 _ (by omega)).trans (rfl)), ⟨hb4, (e4 _ (by omega)).trans ((e3 _ (by omega)).trans ((e2 _ (by omega)).trans (s1))), (e4 _ (by omega)).trans (s3)⟩, trivial⟩
set_option maxHeartbeats 4000000 in
set_option maxRecDepth 100000 in
theorem c_X6_init (hS1 : S.1 = b + 1) (hb : S.2 b = some (oS 6 [some none, none, none, none])) (hμ : μ b = fun _ => 0) : Ct l G cX6_init (yX6_init, 1, none, 1, 1, 6) [.ref b] S μ (Mk S μ b 2 (fun S' μ' => WlnS S' b ∧ True)) := by
  refine Ct.of (by decide) rfl (by simp [vi, Value.category]) (Nat.le_of_ble_eq_true rfl) ?_
  refine v_aload_n aX6_init_0 rfl ?_
  refine v_objInit aX6_init_1 loX6_3 w_obi w_obc (Nat.le_of_ble_eq_true rfl) (Nat.le_of_ble_eq_true rfl) ?_
  refine v_aload_n aX6_init_4 rfl ?_
  refine v_bipush (by decide) aX6_init_5 ?_
  refine w_newI (N := 6) (a := b + 1) aX6_init_7 hS1 rfl (Nat.le_of_ble_eq_true rfl) ⟨Nat.le_of_ble_eq_true rfl, Nat.le_of_ble_eq_true rfl⟩ (fun S1 μ1 z1 s1 e1 n1 m1 => ?_)
  have hb1 : S1.2 b = some (oS 6 [some none, none, none, none]) := (e1 _ (by omega)).trans hb
  refine w_putFr aX6_init_9 foX6_9 fi6_0 ok6_0 rfl hb1 (Nat.le_of_ble_eq_true rfl) rfl (fun S2 y2 s2 e2 => ?_)
  have z2 : S2.1 = b + 2 := y2.trans z1
  have hb2 : S2.2 b = some (oS 6 [some (some (b + 1)), none, none, none]) := s2
  refine v_return aX6_init_12 rfl ⟨Nat.le_refl _, Nat.le_refl _⟩ ?_
  exact ⟨rfl, z2, fun q hq => (e2 _ (by omega)).trans ((e1 _ (by omega)).trans (rfl)), fun q hq => (m1 _ (by omega)).trans (rfl), ⟨hb2, (e2 _ (by omega)).trans (s1)⟩, trivial⟩
set_option maxHeartbeats 4000000 in
set_option maxRecDepth 100000 in
theorem c_X1_init (hS1 : S.1 = b + 1) (hb : S.2 b = some (oS 1 [none, none, none])) (hμ : μ b = fun _ => 0) : Ct l G cX1_init (yX1_init, 1, none, 1, 0, 0) [.ref b] S μ (Mk S μ b 1 (fun S' μ' => FalS S' b ∧ True)) := by
  refine Ct.of (by decide) rfl (by simp [vi, Value.category]) (Nat.le_of_ble_eq_true rfl) ?_
  refine v_aload_n aX1_init_0 rfl ?_
  refine v_objInit aX1_init_1 loX1_3 w_obi w_obc (Nat.le_of_ble_eq_true rfl) (Nat.le_of_ble_eq_true rfl) ?_
  refine v_return aX1_init_4 rfl ⟨Nat.le_refl _, Nat.le_refl _⟩ ?_
  exact ⟨rfl, hS1, fun q hq => rfl, fun q hq => rfl, hb, trivial⟩
def bk0 : BSt := (6, 0, 0, (fun _ => 0), (fun _ => 0), (fun _ => 0), (fun _ => 999), (fun _ => 10), (fun _ => 50))
set_option maxHeartbeats 4000000 in
set_option maxRecDepth 100000 in
theorem li_X0_init {μ0 : Mu} {k : Nat × Nat} {P : Pst} (hB : BookS S b) (hh : ∀ (μ : Mu) (L : List Value), (∀ i : Int, 0 ≤ i → i < 6 → μ (b + 17) i = 10 ∧ μ (b + 18) i = 50) → (∀ q, q ≠ b + 17 → q ≠ b + 18 → μ q = μ0 q) → V l G cX0_init (yX0_init, 2, none, 1, 18, 102) P k S μ 85 ([.ref b] ++ L) []) : ∀ (N : Nat) (i : Int) (μ : Mu), (0 ≤ i ∧ i ≤ 6) → 6 - i < N → (∀ v : Int, 0 ≤ v → v < i → μ (b + 17) v = 10 ∧ μ (b + 18) v = 50) → (∀ q, q ≠ b + 17 → q ≠ b + 18 → μ q = μ0 q) → V l G cX0_init (yX0_init, 2, none, 1, 18, 102) P k S μ 57 [.ref b, vi i] [] := by
  intro N
  induction N with
  | zero => intros; omega
  | succ N ih =>
    intro i μ h0 h1 hv hk
    refine v_iload_n aX0_init_57 rfl ?_
    refine v_bipush (by decide) aX0_init_58 ?_
    refine v_icmp_ge 85 rfl aX0_init_60 (by omega) (by omega) (fun c60 => ?_) (fun c60 => ?_)
    · --
      exact hh μ [vi i] (fun v v0 v1 => hv v v0 (by omega)) hk
    · --
      refine v_aload_n aX0_init_63 rfl ?_
      refine v_getr aX0_init_64 fX0_26 hB.p rfl rfl ?_
      refine v_iload_n aX0_init_67 rfl ?_
      refine v_bipush (by decide) aX0_init_68 ?_
      refine v_iast aX0_init_70 hB.p_tolls (by omega) (by decide) ?_
      refine v_aload_n aX0_init_71 rfl ?_
      refine v_getr aX0_init_72 fX0_29 hB.p rfl rfl ?_
      refine v_iload_n aX0_init_75 rfl ?_
      refine v_bipush (by decide) aX0_init_76 ?_
      refine v_iast aX0_init_78 hB.p_weights (by omega) (by decide) ?_
      refine v_iinc aX0_init_79 rfl (by decide) rfl ?_
      refine v_goto 57 rfl aX0_init_82 ?_
      refine ih (i + 1) _ (by omega) (by omega) (fun v v0 v1 => ?_) (fun q q0 q1 => (upd2_row q1).trans ((upd2_row q0).trans (hk q q0 q1)))
      rw [upd2_row (show b + 17 ≠ b + 18 by omega), upd2_ap, upd2_ap, upd2_row (show b + 18 ≠ b + 17 by omega)]
      by_cases e : v = i
      · rw [e, if_pos ⟨rfl, rfl⟩, if_pos ⟨rfl, rfl⟩]; exact ⟨rfl, rfl⟩
      · rw [if_neg (by omega), if_neg (by omega)]; exact hv v v0 (by omega)
set_option maxHeartbeats 4000000 in
set_option maxRecDepth 100000 in
theorem c_X0_init (hS1 : S.1 = b + 1) (hb : S.2 b = some (oS 0 [some none, some none, some none, some none, some none, some none, none, none, none])) (hμ : μ b = fun _ => 0) : Ct l G cX0_init (yX0_init, 2, none, 1, 18, 102) [.ref b] S μ (Mk S μ b 19 (fun S' μ' => BookS S' b ∧ BkAt μ' b bk0)) := by
  refine Ct.of (by decide) rfl (by simp [vi, Value.category]) (Nat.le_of_ble_eq_true rfl) ?_
  refine v_aload_n aX0_init_0 rfl ?_
  refine v_objInit aX0_init_1 loX0_3 w_obi w_obc (Nat.le_of_ble_eq_true rfl) (Nat.le_of_ble_eq_true rfl) ?_
  refine v_aload_n aX0_init_4 rfl ?_
  refine v_bipush (by decide) aX0_init_5 ?_
  refine v_iconst aX0_init_7 ?_
  refine w_newM (N := 12) (M := 5) (a := b + 1) aX0_init_8 hS1 rfl rfl (Nat.le_of_ble_eq_true rfl) (Nat.le_of_ble_eq_true rfl) ⟨Nat.le_of_ble_eq_true rfl, Nat.le_of_ble_eq_true rfl⟩ clX0_9 (fun S1 μ1 z1 s1 t1 e1 n1 m1 => ?_)
  have hb1 : S1.2 b = some (oS 0 [some none, some none, some none, some none, some none, some none, none, none, none]) := (e1 _ (by omega)).trans hb
  refine w_putFr aX0_init_12 foX0_11 fi0_0 ok0_0 rfl hb1 (Nat.le_of_ble_eq_true rfl) rfl (fun S2 y2 s2 e2 => ?_)
  have z2 : S2.1 = b + 14 := y2.trans z1
  have hb2 : S2.2 b = some (oS 0 [some (some (b + 1)), some none, some none, some none, some none, some none, none, none, none]) := s2
  refine v_aload_n aX0_init_15 rfl ?_
  refine v_bipush (by decide) aX0_init_16 ?_
  refine w_newI (N := 6) (a := b + 14) aX0_init_18 z2 rfl (Nat.le_of_ble_eq_true rfl) ⟨Nat.le_of_ble_eq_true rfl, Nat.le_of_ble_eq_true rfl⟩ (fun S3 μ3 z3 s3 e3 n3 m3 => ?_)
  have hb3 : S3.2 b = some (oS 0 [some (some (b + 1)), some none, some none, some none, some none, some none, none, none, none]) := (e3 _ (by omega)).trans hb2
  refine w_putFr aX0_init_20 foX0_16 fi0_1 ok0_1 rfl hb3 (Nat.le_of_ble_eq_true rfl) rfl (fun S4 y4 s4 e4 => ?_)
  have z4 : S4.1 = b + 15 := y4.trans z3
  have hb4 : S4.2 b = some (oS 0 [some (some (b + 1)), some (some (b + 14)), some none, some none, some none, some none, none, none, none]) := s4
  refine v_aload_n aX0_init_23 rfl ?_
  refine v_bipush (by decide) aX0_init_24 ?_
  refine w_newI (N := 6) (a := b + 15) aX0_init_26 z4 rfl (Nat.le_of_ble_eq_true rfl) ⟨Nat.le_of_ble_eq_true rfl, Nat.le_of_ble_eq_true rfl⟩ (fun S5 μ5 z5 s5 e5 n5 m5 => ?_)
  have hb5 : S5.2 b = some (oS 0 [some (some (b + 1)), some (some (b + 14)), some none, some none, some none, some none, none, none, none]) := (e5 _ (by omega)).trans hb4
  refine w_putFr aX0_init_28 foX0_20 fi0_2 ok0_2 rfl hb5 (Nat.le_of_ble_eq_true rfl) rfl (fun S6 y6 s6 e6 => ?_)
  have z6 : S6.1 = b + 16 := y6.trans z5
  have hb6 : S6.2 b = some (oS 0 [some (some (b + 1)), some (some (b + 14)), some (some (b + 15)), some none, some none, some none, none, none, none]) := s6
  refine v_aload_n aX0_init_31 rfl ?_
  refine v_bipush (by decide) aX0_init_32 ?_
  refine w_newI (N := 6) (a := b + 16) aX0_init_34 z6 rfl (Nat.le_of_ble_eq_true rfl) ⟨Nat.le_of_ble_eq_true rfl, Nat.le_of_ble_eq_true rfl⟩ (fun S7 μ7 z7 s7 e7 n7 m7 => ?_)
  have hb7 : S7.2 b = some (oS 0 [some (some (b + 1)), some (some (b + 14)), some (some (b + 15)), some none, some none, some none, none, none, none]) := (e7 _ (by omega)).trans hb6
  refine w_putFr aX0_init_36 foX0_23 fi0_3 ok0_3 rfl hb7 (Nat.le_of_ble_eq_true rfl) rfl (fun S8 y8 s8 e8 => ?_)
  have z8 : S8.1 = b + 17 := y8.trans z7
  have hb8 : S8.2 b = some (oS 0 [some (some (b + 1)), some (some (b + 14)), some (some (b + 15)), some (some (b + 16)), some none, some none, none, none, none]) := s8
  refine v_aload_n aX0_init_39 rfl ?_
  refine v_bipush (by decide) aX0_init_40 ?_
  refine w_newI (N := 6) (a := b + 17) aX0_init_42 z8 rfl (Nat.le_of_ble_eq_true rfl) ⟨Nat.le_of_ble_eq_true rfl, Nat.le_of_ble_eq_true rfl⟩ (fun S9 μ9 z9 s9 e9 n9 m9 => ?_)
  have hb9 : S9.2 b = some (oS 0 [some (some (b + 1)), some (some (b + 14)), some (some (b + 15)), some (some (b + 16)), some none, some none, none, none, none]) := (e9 _ (by omega)).trans hb8
  refine w_putFr aX0_init_44 foX0_26 fi0_4 ok0_4 rfl hb9 (Nat.le_of_ble_eq_true rfl) rfl (fun S10 y10 s10 e10 => ?_)
  have z10 : S10.1 = b + 18 := y10.trans z9
  have hb10 : S10.2 b = some (oS 0 [some (some (b + 1)), some (some (b + 14)), some (some (b + 15)), some (some (b + 16)), some (some (b + 17)), some none, none, none, none]) := s10
  refine v_aload_n aX0_init_47 rfl ?_
  refine v_bipush (by decide) aX0_init_48 ?_
  refine w_newI (N := 6) (a := b + 18) aX0_init_50 z10 rfl (Nat.le_of_ble_eq_true rfl) ⟨Nat.le_of_ble_eq_true rfl, Nat.le_of_ble_eq_true rfl⟩ (fun S11 μ11 z11 s11 e11 n11 m11 => ?_)
  have hb11 : S11.2 b = some (oS 0 [some (some (b + 1)), some (some (b + 14)), some (some (b + 15)), some (some (b + 16)), some (some (b + 17)), some none, none, none, none]) := (e11 _ (by omega)).trans hb10
  refine w_putFr aX0_init_52 foX0_29 fi0_5 ok0_5 rfl hb11 (Nat.le_of_ble_eq_true rfl) rfl (fun S12 y12 s12 e12 => ?_)
  have z12 : S12.1 = b + 19 := y12.trans z11
  have hb12 : S12.2 b = some (oS 0 [some (some (b + 1)), some (some (b + 14)), some (some (b + 15)), some (some (b + 16)), some (some (b + 17)), some (some (b + 18)), none, none, none]) := s12
  have hB : BookS S12 b := ⟨hb12, (e12 _ (by omega)).trans ((e11 _ (by omega)).trans ((e10 _ (by omega)).trans ((e9 _ (by omega)).trans ((e8 _ (by omega)).trans ((e7 _ (by omega)).trans ((e6 _ (by omega)).trans ((e5 _ (by omega)).trans ((e4 _ (by omega)).trans ((e3 _ (by omega)).trans ((e2 _ (by omega)).trans (s1))))))))))), (e12 _ (by omega)).trans ((e11 _ (by omega)).trans ((e10 _ (by omega)).trans ((e9 _ (by omega)).trans ((e8 _ (by omega)).trans ((e7 _ (by omega)).trans ((e6 _ (by omega)).trans ((e5 _ (by omega)).trans ((e4 _ (by omega)).trans (s3))))))))), (e12 _ (by omega)).trans ((e11 _ (by omega)).trans ((e10 _ (by omega)).trans ((e9 _ (by omega)).trans ((e8 _ (by omega)).trans ((e7 _ (by omega)).trans ((e6 _ (by omega)).trans (s5))))))), (e12 _ (by omega)).trans ((e11 _ (by omega)).trans ((e10 _ (by omega)).trans ((e9 _ (by omega)).trans ((e8 _ (by omega)).trans (s7))))), (e12 _ (by omega)).trans ((e11 _ (by omega)).trans ((e10 _ (by omega)).trans (s9))), (e12 _ (by omega)).trans (s11), fun i hi => (by have hi2 := hi; exact (show S12.2 (b + 1 + 1 + i) = some (aI 5) from (e12 _ (by omega)).trans ((e11 _ (by omega)).trans ((e10 _ (by omega)).trans ((e9 _ (by omega)).trans ((e8 _ (by omega)).trans ((e7 _ (by omega)).trans ((e6 _ (by omega)).trans ((e5 _ (by omega)).trans ((e4 _ (by omega)).trans ((e3 _ (by omega)).trans ((e2 _ (by omega)).trans (t1 i hi)))))))))))))⟩
  refine v_iconst aX0_init_55 ?_
  refine v_istore_n aX0_init_56 (by decide) rfl ?_
  refine li_X0_init (μ0 := μ11) hB (fun μ1 L h1 h2 => ?_) 7 0 _ (by omega) (by omega) (fun v v0 v1 => absurd v0 (by omega)) (fun q _ _ => rfl)
  refine v_take 1 rfl ?_
  show V _ _ _ _ _ _ _ _ _ [.ref b] _
  have ht : BkAt μ1 b (μ1 b 6, μ1 b 7, 0, (fun _ => 0), μ1 (b + 14), μ1 (b + 15), μ1 (b + 16), (fun _ => 10), (fun _ => 50)) := by
    refine ⟨rfl, rfl, ?_, fun i hi j j0 j1 => ?_, fun _ _ _ => rfl, fun _ _ _ => rfl, fun _ _ _ => rfl, fun i i0 i1 => (h1 i i0 i1).1, fun i i0 i1 => (h1 i i0 i1).2⟩
    · rw [h2 b (by omega) (by omega)]
      exact congrFun ((m11 _ (by omega)).trans ((m9 _ (by omega)).trans ((m7 _ (by omega)).trans ((m5 _ (by omega)).trans ((m3 _ (by omega)).trans ((m1 _ (by omega)).trans (hμ))))))) 8
    · rw [h2 _ (by omega) (by omega)]
      exact congrFun ((m11 _ (by omega)).trans ((m9 _ (by omega)).trans ((m7 _ (by omega)).trans ((m5 _ (by omega)).trans ((m3 _ (by omega)).trans (n1 _ (by omega))))))) j
  refine v_aload_n aX0_init_85 rfl ?_
  refine v_bipush (by decide) aX0_init_86 ?_
  refine v_cVw (c_X0_beginWith (n := 6) hB ht) aX0_init_88 mX0_beginWith vX0_beginWith lX0_32 hB.p rfl rfl rfl rfl rfl (Nat.le_of_ble_eq_true rfl) ⟨Nat.le_of_ble_eq_true rfl, Nat.le_of_ble_eq_true rfl⟩ (Nat.le_of_ble_eq_true rfl) (fun μ2 ⟨r1, r2⟩ => ?_)
  refine v_return aX0_init_91 rfl ⟨Nat.le_refl _, Nat.le_refl _⟩ ?_
  exact ⟨rfl, z12, fun q hq => (e12 _ (by omega)).trans ((e11 _ (by omega)).trans ((e10 _ (by omega)).trans ((e9 _ (by omega)).trans ((e8 _ (by omega)).trans ((e7 _ (by omega)).trans ((e6 _ (by omega)).trans ((e5 _ (by omega)).trans ((e4 _ (by omega)).trans ((e3 _ (by omega)).trans ((e2 _ (by omega)).trans ((e1 _ (by omega)).trans (rfl)))))))))))), fun q hq => (r2 q (by omega)).trans ((h2 q (by omega) (by omega)).trans ((m11 _ (by omega)).trans ((m9 _ (by omega)).trans ((m7 _ (by omega)).trans ((m5 _ (by omega)).trans ((m3 _ (by omega)).trans ((m1 _ (by omega)).trans (rfl)))))))), hB, r1⟩
end CTOR
