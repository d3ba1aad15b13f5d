/-! the law: its calls one by one -/
theorem lL_9 : Ln "LastScaleLaw" 9 yX7_init := Or.inl (tb_w 97 (by decide +kernel) (by decide +kernel))
theorem lL_12 : Ln "LastScaleLaw" 12 yX8_init := Or.inl (tb_w 679 (by decide +kernel) (by decide +kernel))
theorem lL_13 : Ln "LastScaleLaw" 13 yX7_sacks := Or.inl (tb_w 288 (by decide +kernel) (by decide +kernel))
theorem lL_17 : Ln "LastScaleLaw" 17 yX8_sacks := Or.inl (tb_w 767 (by decide +kernel) (by decide +kernel))
theorem lL_18 : Ln "LastScaleLaw" 18 yX7_say := Or.inl (tb_w 293 (by decide +kernel) (by decide +kernel))
theorem lL_21 : Ln "LastScaleLaw" 21 yX8_say := Or.inl (tb_w 774 (by decide +kernel) (by decide +kernel))
theorem lL_22 : Ln "LastScaleLaw" 22 yX7_wipe := Or.inl (tb_w 301 (by decide +kernel) (by decide +kernel))
theorem lL_26 : Ln "LastScaleLaw" 26 yX8_wipe := Or.inl (tb_w 778 (by decide +kernel) (by decide +kernel))
theorem lL_27 : Ln "LastScaleLaw" 27 yX7_fault := Or.inl (tb_w 309 (by decide +kernel) (by decide +kernel))
theorem lL_30 : Ln "LastScaleLaw" 30 yX8_fault := Or.inl (tb_w 782 (by decide +kernel) (by decide +kernel))
theorem lL_31 : Ln "LastScaleLaw" 31 yX7_line := Or.inl (tb_w 321 (by decide +kernel) (by decide +kernel))
theorem lL_34 : Ln "LastScaleLaw" 34 yX8_line := Or.inl (tb_w 794 (by decide +kernel) (by decide +kernel))
theorem lL_35 : Ln "LastScaleLaw" 35 yX7_strike := Or.inl (tb_w 341 (by decide +kernel) (by decide +kernel))
theorem lL_38 : Ln "LastScaleLaw" 38 yX8_strike := Or.inl (tb_w 798 (by decide +kernel) (by decide +kernel))
theorem lL_39 : Ln "LastScaleLaw" 39 yX7_saying := Or.inl (tb_w 345 (by decide +kernel) (by decide +kernel))
theorem lL_43 : Ln "LastScaleLaw" 43 yX8_saying := Or.inl (tb_w 802 (by decide +kernel) (by decide +kernel))
theorem lL_44 : Ln "LastScaleLaw" 44 yX7_follows := Or.inl (tb_w 349 (by decide +kernel) (by decide +kernel))
theorem lL_47 : Ln "LastScaleLaw" 47 yX8_follows := Or.inl (tb_w 806 (by decide +kernel) (by decide +kernel))
theorem lL_48 : Ln "LastScaleLaw" 48 yX7_open := Or.inl (tb_w 397 (by decide +kernel) (by decide +kernel))
theorem lL_51 : Ln "LastScaleLaw" 51 yX8_open := Or.inl (tb_w 830 (by decide +kernel) (by decide +kernel))
theorem lL_52 : Ln "LastScaleLaw" 52 yX7_rank := Or.inl (tb_w 416 (by decide +kernel) (by decide +kernel))
theorem lL_55 : Ln "LastScaleLaw" 55 yX8_rank := Or.inl (tb_w 846 (by decide +kernel) (by decide +kernel))
theorem lL_56 : Ln "LastScaleLaw" 56 yX7_orders := Or.inl (tb_w 444 (by decide +kernel) (by decide +kernel))
theorem lL_59 : Ln "LastScaleLaw" 59 yX8_orders := Or.inl (tb_w 854 (by decide +kernel) (by decide +kernel))
theorem lL_60 : Ln "LastScaleLaw" 60 yX7_toll := Or.inl (tb_w 456 (by decide +kernel) (by decide +kernel))
theorem lL_63 : Ln "LastScaleLaw" 63 yX8_toll := Or.inl (tb_w 858 (by decide +kernel) (by decide +kernel))
theorem lL_64 : Ln "LastScaleLaw" 64 yX7_pays := Or.inl (tb_w 460 (by decide +kernel) (by decide +kernel))
theorem lL_67 : Ln "LastScaleLaw" 67 yX8_pays := Or.inl (tb_w 862 (by decide +kernel) (by decide +kernel))
theorem lL_68 : Ln "LastScaleLaw" 68 yX7_more := Or.inl (tb_w 478 (by decide +kernel) (by decide +kernel))
theorem lL_71 : Ln "LastScaleLaw" 71 yX8_more := Or.inl (tb_w 870 (by decide +kernel) (by decide +kernel))
theorem lL_72 : Ln "LastScaleLaw" 72 yX7_known := Or.inl (tb_w 571 (by decide +kernel) (by decide +kernel))
theorem lL_76 : Ln "LastScaleLaw" 76 yX8_known := Or.inl (tb_w 910 (by decide +kernel) (by decide +kernel))
theorem lL_77 : Ln "LastScaleLaw" 77 yX7_loss := Or.inl (tb_w 575 (by decide +kernel) (by decide +kernel))
theorem lL_80 : Ln "LastScaleLaw" 80 yX8_loss := Or.inl (tb_w 914 (by decide +kernel) (by decide +kernel))
theorem lL_81 : Ln "LastScaleLaw" 81 yX7_span := Or.inl (tb_w 579 (by decide +kernel) (by decide +kernel))
theorem lL_84 : Ln "LastScaleLaw" 84 yX8_span := Or.inl (tb_w 918 (by decide +kernel) (by decide +kernel))
theorem lL_85 : Ln "LastScaleLaw" 85 yX7_lies := Or.inl (tb_w 602 (by decide +kernel) (by decide +kernel))
theorem lL_88 : Ln "LastScaleLaw" 88 yX8_lies := Or.inl (tb_w 934 (by decide +kernel) (by decide +kernel))
theorem lL_89 : Ln "LastScaleLaw" 89 yX7_weight := Or.inl (tb_w 616 (by decide +kernel) (by decide +kernel))
theorem lL_92 : Ln "LastScaleLaw" 92 yX8_weight := Or.inl (tb_w 941 (by decide +kernel) (by decide +kernel))
theorem lL_93 : Ln "LastScaleLaw" 93 yX7_leaves := Or.inl (tb_w 620 (by decide +kernel) (by decide +kernel))
theorem lL_96 : Ln "LastScaleLaw" 96 yX8_leaves := Or.inl (tb_w 945 (by decide +kernel) (by decide +kernel))
theorem lL_97 : Ln "LastScaleLaw" 97 yX7_lineBy := Or.inl (tb_w 635 (by decide +kernel) (by decide +kernel))
theorem lL_100 : Ln "LastScaleLaw" 100 yX8_lineBy := Or.inl (tb_w 957 (by decide +kernel) (by decide +kernel))
theorem lL_101 : Ln "LastScaleLaw" 101 yX7_image := Or.inl (tb_w 656 (by decide +kernel) (by decide +kernel))
theorem lL_104 : Ln "LastScaleLaw" 104 yX8_image := Or.inl (tb_w 961 (by decide +kernel) (by decide +kernel))
theorem lL_105 : Ln "LastScaleLaw" 105 yX7_restore := Or.inl (tb_w 665 (by decide +kernel) (by decide +kernel))
theorem lL_108 : Ln "LastScaleLaw" 108 yX8_restore := Or.inl (tb_w 965 (by decide +kernel) (by decide +kernel))
theorem lL_109 : Ln "LastScaleLaw" 109 yX7_told := Or.inl (tb_w 669 (by decide +kernel) (by decide +kernel))
theorem lL_112 : Ln "LastScaleLaw" 112 yX8_told := Or.inl (tb_w 969 (by decide +kernel) (by decide +kernel))
theorem clL_7 : Cond.classLink "LastScaleLaw" 7 "LastScale" ∈ TBL := tb_w 95 (by decide +kernel) (by decide +kernel)
theorem clL_10 : Cond.classLink "LastScaleLaw" 10 "LastScaleModel" ∈ TBL := tb_w 677 (by decide +kernel) (by decide +kernel)
theorem new_c7 {l : Launch} {G : Glb} {S : Sh} {μ : Mu} {q : Nat} {cc : ByteArray} {F : Frm} {P : Pst} {k : Nat × Nat} {pc n' idx : Nat} {L st : List Value} (hd : At cc pc (.new idx) 3 n') (hs : S.1 = q) (hm : k.1 + 1 ≤ F.2.2.2.2.1 ∧ k.2 + 8 ≤ F.2.2.2.2.2) (hw : Cond.classLink F.1.cls idx "LastScale" ∈ TBL) (h : ∀ (S' : Sh) (μ' : Mu), S'.1 = q + 1 → S'.2 q = some (oS 7 [some none, some none, some none, some none, some none, some none, some none, some none]) → (∀ r, r ≠ q → S'.2 r = S.2 r) → μ' q = (fun _ => 0) → (∀ r, r ≠ q → μ' r = μ r) → V l G cc F P (k.1 + 1, k.2 + 8) S' μ' n' L (.ref q :: st)) : V l G cc F P k S μ pc L st := by
  subst hs
  refine v_new (ci := 7) (sl := [some none, some none, some none, some none, some none, some none, some none, some none]) hd rfl rfl (fun j hj => ?_) hm hw isX7 ini7 (h (snew S (oS 7 _)) (mnew S μ) rfl (if_pos rfl) (fun r hr => if_neg hr) (if_pos rfl) (fun r hr => if_neg hr))
  have hj : j < 8 := hj
  rw [tyX7_ok j hj]
  rcases (show j = 0 ∨ j = 1 ∨ j = 2 ∨ j = 3 ∨ j = 4 ∨ j = 5 ∨ j = 6 ∨ j = 7 by omega) with e | e | e | e | e | e | e | e <;> subst e <;> rfl
theorem new_c8 {l : Launch} {G : Glb} {S : Sh} {μ : Mu} {q : Nat} {cc : ByteArray} {F : Frm} {P : Pst} {k : Nat × Nat} {pc n' idx : Nat} {L st : List Value} (hd : At cc pc (.new idx) 3 n') (hs : S.1 = q) (hm : k.1 + 1 ≤ F.2.2.2.2.1 ∧ k.2 + 27 ≤ F.2.2.2.2.2) (hw : Cond.classLink F.1.cls idx "LastScaleModel" ∈ TBL) (h : ∀ (S' : Sh) (μ' : Mu), S'.1 = q + 1 → S'.2 q = some (oS 8 [none, none, some none, none, some none, some none, some none, some none, some none, none, some none, some none, some none, none, some none, some none, some none, none, some none, some none, some none, some none, some none, some none, some none, some none, some none]) → (∀ r, r ≠ q → S'.2 r = S.2 r) → μ' q = (fun _ => 0) → (∀ r, r ≠ q → μ' r = μ r) → V l G cc F P (k.1 + 1, k.2 + 27) S' μ' n' L (.ref q :: st)) : V l G cc F P k S μ pc L st := by
  subst hs
  refine v_new (ci := 8) (sl := [none, none, some none, none, some none, some none, some none, some none, some none, none, some none, some none, some none, none, some none, some none, some none, none, some none, some none, some none, some none, some none, some none, some none, some none, some none]) hd rfl rfl (fun j hj => ?_) hm hw isX8 ini8 (h (snew S (oS 8 _)) (mnew S μ) rfl (if_pos rfl) (fun r hr => if_neg hr) (if_pos rfl) (fun r hr => if_neg hr))
  have hj : j < 27 := hj
  rw [tyX8_ok j hj]
  rcases (show j = 0 ∨ j = 1 ∨ j = 2 ∨ j = 3 ∨ j = 4 ∨ j = 5 ∨ j = 6 ∨ j = 7 ∨ j = 8 ∨ j = 9 ∨ j = 10 ∨ j = 11 ∨ j = 12 ∨ j = 13 ∨ j = 14 ∨ j = 15 ∨ j = 16 ∨ j = 17 ∨ j = 18 ∨ j = 19 ∨ j = 20 ∨ j = 21 ∨ j = 22 ∨ j = 23 ∨ j = 24 ∨ j = 25 ∨ j = 26 by omega) with e | e | e | e | e | e | e | e | e | e | e | e | e | e | e | e | e | e | e | e | e | e | e | e | e | e | e <;> subst e <;> rfl
/-- a number of the script -/
def SC (G : Glb) (i : Int) : Int := (G.2.2.2.2.2.2 i.toNat).toInt
theorem SC_r {G : Glb} {i : Int} : -2147483648 ≤ SC G i ∧ SC G i < 2147483648 := iop_r _
section LROW
variable {l : Launch} {G : Glb} {cc : ByteArray} {F : Frm} {P : Pst} {k : Nat × Nat} {S : Sh} {μ : Mu} {pc n : Nat} {L st : List Value}
theorem v_icmp_eqS {z : Int} {off : Int} (t : Nat) (ht : (pc : Int) + off = (t : Int)) (hd : At cc pc (.if_icmp .eq off) 3 n) (h : V l G cc F P k S μ t L st) : V l G cc F P k S μ pc L (vi z :: vi z :: st) := by
  obtain ⟨hd, rfl⟩ := hd
  intro p e s m args below meth c H locs ls X R hf hlc hl
  exact lv_icmp_eq X.1 X.2.1 hd ht (fun _ => h _ _ _ _ _ _ _ _ _ _ _ X R hf hlc hl) (fun q => absurd rfl q)
theorem v_slen (hd : At cc pc .arraylength 1 n) (h : V l G cc F P k S μ n L (vi (G.2.2.2.2.2.1 : Int) :: st)) : V l G cc F P k S μ pc L (.ref G.2.2.2.2.1 :: st) := by
  obtain ⟨hd, rfl⟩ := hd
  intro p e s m args below meth c H locs ls X R hf hlc hl
  obtain ⟨hx, hb, hml, -, hown, -, -, hts, hK, hZ, hsz⟩ := id X
  obtain ⟨⟨scr, h1, h2, h3, h4, h5⟩, hlt⟩ := hZ.2.2
  refine W.alen (n := Int32.ofInt (G.2.2.2.2.2.1 : Int)) hx hb (by rw [hf _ hlt]; exact h1) h2 (by rw [h4, ofInt_nat]; rfl) rfl rfl hd (h _ _ _ _ _ _ _ _ _ _ _ X R hf hlc hl)
theorem v_sld {z : Int} (hd : At cc pc .iaload 1 n) (hz : 0 ≤ z ∧ z < (G.2.2.2.2.2.1 : Int)) (hN : G.2.2.2.2.2.1 ≤ 65536) (h : V l G cc F P k S μ n L (vi (SC G z) :: st)) : V l G cc F P k S μ pc L (vi z :: .ref G.2.2.2.2.1 :: st) := by
  obtain ⟨hd, rfl⟩ := hd
  intro p e s m args below meth c H locs ls X R hf hlc hl
  obtain ⟨hx, hb, hml, -, hown, -, -, hts, hK, hZ, hsz⟩ := id X
  obtain ⟨⟨scr, h1, h2, h3, h4, h5⟩, hlt⟩ := hZ.2.2
  refine W.iald (v := vi (SC G z)) hx hb (by rw [hf _ hlt]; exact h1) h2 h3 ?_ ?_ rfl rfl hd (h _ _ _ _ _ _ _ _ _ _ _ X R hf hlc hl)
  · rw [clamp_in (by omega), (i32_0 (by omega)).1, h4]
    omega
  · rw [clamp_in (by omega), h5 _ (by omega)]
    unfold vi SC
    rw [Int32.ofInt_toInt]
end LROW
theorem MiAt.kp {f f' : Int → Int} {i : Int} {t : BSt} (h : MiAt f i t) (e : ∀ w : Int, 93 * i ≤ w → w < 93 * i + 93 → f' w = f w) : MiAt f' i t := by
  obtain ⟨h1, h2, h3, h4, h5⟩ := h
  refine ⟨fun z z0 z1 => by rw [e _ (by omega) (by omega)]; exact h1 z z0 z1, fun k k0 k1 => ?_, by rw [e _ (by omega) (by omega)]; exact h3, by rw [e _ (by omega) (by omega)]; exact h4, by rw [e _ (by omega) (by omega)]; exact h5⟩
  obtain ⟨a1, a2, a3, a4, a5⟩ := h2 k k0 k1
  exact ⟨by rw [e _ (by omega) (by omega)]; exact a1, by rw [e _ (by omega) (by omega)]; exact a2, by rw [e _ (by omega) (by omega)]; exact a3, by rw [e _ (by omega) (by omega)]; exact a4, by rw [e _ (by omega) (by omega)]; exact a5⟩
theorem ModS.kept {S S' : Sh} {b : Nat} (h : ModS S b) (e : ∀ a, b ≤ a → a < b + 22 → S'.2 a = S.2 a) : ModS S' b := by
  unfold ModS at h ⊢
  rw [e b (by omega) (by omega), e (b + 1) (by omega) (by omega), e (b + 2) (by omega) (by omega), e (b + 3) (by omega) (by omega), e (b + 4) (by omega) (by omega), e (b + 5) (by omega) (by omega), e (b + 6) (by omega) (by omega), e (b + 7) (by omega) (by omega), e (b + 8) (by omega) (by omega), e (b + 9) (by omega) (by omega), e (b + 10) (by omega) (by omega), e (b + 11) (by omega) (by omega), e (b + 12) (by omega) (by omega), e (b + 13) (by omega) (by omega), e (b + 14) (by omega) (by omega), e (b + 15) (by omega) (by omega), e (b + 16) (by omega) (by omega), e (b + 17) (by omega) (by omega), e (b + 18) (by omega) (by omega), e (b + 19) (by omega) (by omega), e (b + 20) (by omega) (by omega), e (b + 21) (by omega) (by omega)]
  exact h
/-- an image is laid: j's book is q, and holds t -/
theorem Sim.img {S S' : Sh} {μ μ2 : Mu} {xa j q : Nat} {im pl : Nat → Option Nat} {t : BSt} {g : Int → Int} {n B : Int} (h : Sim S μ xa im pl t g n B) (hj : j < 2) (hS : LsS S' xa (fun a => if a = j then some q else im a) pl ∧ ModS S' (xa + 33) ∧ Lay S'.1 xa (fun a => if a = j then some q else im a) pl) (hl : LsAt μ2 xa t g n) (hm : MoAt μ2 (xa + 33) t g n) (hQ : BookS S' q) (hb : BkAt μ2 q t) (hi : MiAt (μ2 (xa + 53)) (j : Int) t) (hiw : ∀ w : Int, (w < 93 * (j : Int) ∨ 93 * (j : Int) + 93 ≤ w) → μ2 (xa + 53) w = μ (xa + 53) w) (hk : μ2 (xa + 54) = iup (μ (xa + 54)) (j : Int) 1) (ho : ∀ r : Nat, xa + 55 ≤ r → r < S.1 → (r < q ∨ q + 19 ≤ r) → μ2 r = μ r ∧ S'.2 r = S.2 r) : Sim S' μ2 xa (fun a => if a = j then some q else im a) pl t g n B := by
  obtain ⟨⟨s1, s2, s3⟩, s4, s5, s6, s7, s8, s9, s10⟩ := h
  obtain ⟨k1, k2, k3⟩ := hS
  refine ⟨⟨k1, k2, k3⟩, hl, hm, s6, s7, fun i hi2 => ?_, fun k p hp => ?_, fun z => ?_⟩
  · by_cases e : i = j
    · subst e
      exact Or.inr ⟨q, t, if_pos rfl, hQ, hb, hi, by rw [hk, iup_same], s6⟩
    · rcases s8 i hi2 with ⟨a1, a2⟩ | ⟨r, t', a1, a2, a3, a4, a5, a6⟩
      · exact Or.inl ⟨by show (if i = j then some q else im i) = none; rw [if_neg e]; exact a1, by rw [hk, iup_ne (by omega)]; exact a2⟩
      · have hd := k3.2.2.2.1 i j r q e (by show (if i = j then some q else im i) = some r; rw [if_neg e]; exact a1) (if_pos rfl)
        have hr := (s3.2.1 i r a1).2
        refine Or.inr ⟨r, t', by show (if i = j then some q else im i) = some r; rw [if_neg e]; exact a1, a2.kept (fun a a0 a9 => (ho a (by omega) (by omega) (by omega)).2), a3.kept (fun a a0 a9 => (ho a (by omega) (by omega) (by omega)).1), a4.kp (fun w w0 w1 => hiw w (by omega)), by rw [hk, iup_ne (by omega)]; exact a5, a6⟩
  · obtain ⟨a1, a2, a3⟩ := s9 k p hp
    have hd := k3.2.2.2.2.1 j k q p (if_pos rfl) hp
    have hr := (s3.2.2.1 k p hp).2
    have e0 := ho p (by omega) (by omega) (by omega)
    have e1 := ho (p + 1) (by omega) (by omega) (by omega)
    exact ⟨⟨e0.2.trans a1.1, e1.2.trans a1.2⟩, by unfold PlC; rw [e0.1]; exact a2, fun w w1 w2 => by rw [e1.1]; exact a3 w w1 w2⟩
  · rw [hk]
    unfold iup
    split
    · exact Or.inr rfl
    · exact s10 z
/-- only the memory of planner kk changed beside the class's own cells -/
theorem Sim.plr {S : Sh} {μ μ1 : Mu} {xa : Nat} {im pl : Nat → Option Nat} {t : BSt} {g : Int → Int} {n B kk : Int} (h : Sim S μ xa im pl t g n B) (hk0 : 0 ≤ kk) (h1 : LsAt μ1 xa t g n) (h2 : ∀ a : Nat, (a < xa ∨ xa + 33 ≤ a) → (∀ p : Nat, pl kk.toNat = some p → a ≠ p + 1) → μ1 a = μ a) (h3 : ∀ p : Nat, pl kk.toNat = some p → PlM μ1 p kk) : Sim S μ1 xa im pl t g n B := by
  obtain ⟨⟨s1, s2, s3⟩, s4, s5, s6, s7, s8, s9, s10⟩ := h
  have hlow : ∀ a : Nat, xa + 33 ≤ a → a < xa + 55 → μ1 a = μ a := fun a a0 a1 => h2 a (by omega) (fun p hp => by have := (s3.2.2.1 _ p hp).2; omega)
  refine ⟨⟨s1, s2, s3⟩, h1, s5.kept (fun a a0 a1 => hlow a (by omega) (by omega)), s6, s7, fun i hi => ?_, fun k p hp => ?_, fun z => by rw [hlow _ (by omega) (by omega)]; exact s10 z⟩
  · rcases s8 i hi with ⟨a1, a2⟩ | ⟨q, t', a1, a2, a3, a4, a5, a6⟩
    · exact Or.inl ⟨a1, by rw [hlow _ (by omega) (by omega)]; exact a2⟩
    · have hr := (s3.2.1 i q a1).2
      exact Or.inr ⟨q, t', a1, a2, a3.kept (fun a a0 a9 => h2 a (by omega) (fun p hp => by have := s3.2.2.2.2.1 i _ q p a1 hp; omega)), by rw [hlow _ (by omega) (by omega)]; exact a4, by rw [hlow _ (by omega) (by omega)]; exact a5, a6⟩
  · obtain ⟨a1, a2, a3⟩ := s9 k p hp
    have hr := (s3.2.2.1 k p hp).2
    have e0 : μ1 p = μ p := h2 p (by omega) (fun r hr2 => by
      by_cases e : k = kk.toNat
      · rw [← e, hp] at hr2; cases hr2; omega
      · have := s3.2.2.2.2.2 k _ p r e hp hr2; omega)
    refine ⟨a1, by unfold PlC; rw [e0]; exact a2, ?_⟩
    by_cases e : k = kk.toNat
    · subst e
      have := h3 p hp
      rwa [show ((kk.toNat : Nat) : Int) = kk by omega]
    · have e1 : μ1 (p + 1) = μ (p + 1) := h2 (p + 1) (by omega) (fun r hr2 => by
        have := s3.2.2.2.2.2 k _ p r e hp hr2; omega)
      exact fun w w1 w2 => by rw [e1]; exact a3 w w1 w2
/-- a new planner -/
theorem Sim.pln {S S' : Sh} {μ μ1 : Mu} {xa q : Nat} {im pl : Nat → Option Nat} {t : BSt} {g : Int → Int} {n B kk : Int} (h : Sim S μ xa im pl t g n B) (hk0 : 1 ≤ kk ∧ kk ≤ 5) (hq : S.1 = q) (hn : pl kk.toNat = none) (z2 : S'.1 = q + 2) (hX : LsS S' xa im (fun j => if j = kk.toNat then some q else pl j)) (hP : PlnS S' q (cdN (kk - 1).toNat)) (hc : PlC μ1 q kk) (hm : PlM μ1 q kk) (hs : ∀ a, a < q → a ≠ xa + 32 → S'.2 a = S.2 a) (h1 : LsAt μ1 xa t g n) (h2 : ∀ a, a < q → (a < xa ∨ xa + 33 ≤ a) → μ1 a = μ a) : Sim S' μ1 xa im (fun j => if j = kk.toNat then some q else pl j) t g n B := by
  obtain ⟨⟨s1, s2, s3⟩, s4, s5, s6, s7, s8, s9, s10⟩ := h
  subst hq
  obtain ⟨l1, l2, l3, l4, l5, l6⟩ := s3
  have hpl : ∀ k p : Nat, (if k = kk.toNat then some S.1 else pl k) = some p → (k = kk.toNat ∧ p = S.1) ∨ (k ≠ kk.toNat ∧ pl k = some p) := fun k p hp => by
    by_cases e : k = kk.toNat
    · rw [if_pos e] at hp; cases hp; exact Or.inl ⟨e, rfl⟩
    · rw [if_neg e] at hp; exact Or.inr ⟨e, hp⟩
  have hL : Lay S'.1 xa im (fun j => if j = kk.toNat then some S.1 else pl j) := by
    refine ⟨by omega, fun i q hi => by have := l2 i q hi; omega, fun k p hp => ?_, l4, fun i k q p hi hp => ?_, fun k j p r ne hp hr => ?_⟩
    · rcases hpl k p hp with ⟨a1, a2⟩ | ⟨a1, a2⟩
      · omega
      · have := l3 k p a2; omega
    · have := l2 i q hi
      rcases hpl k p hp with ⟨a1, a2⟩ | ⟨a1, a2⟩
      · omega
      · exact l5 i k q p hi a2
    · rcases hpl k p hp with ⟨a1, a2⟩ | ⟨a1, a2⟩ <;> rcases hpl j r hr with ⟨c1, c2⟩ | ⟨c1, c2⟩
      · exact absurd (a1.trans c1.symm) ne
      · have := l3 j r c2; omega
      · have := l3 k p a2; omega
      · exact l6 k j p r ne a2 c2
  have e : ∀ a : Nat, xa + 33 ≤ a → a < S.1 → μ1 a = μ a := fun a a0 a1 => h2 a a1 (by omega)
  refine ⟨⟨hX, s2.kept (fun a a0 a1 => hs a (by omega) (by omega)), hL⟩, h1, s5.kept (fun a a0 a1 => e a (by omega) (by omega)), s6, s7, fun i hi => ?_, fun k p hp => ?_, fun z => by rw [e _ (by omega) (by omega)]; exact s10 z⟩
  · rcases s8 i hi with ⟨a1, a2⟩ | ⟨q, t', a1, a2, a3, a4, a5, a6⟩
    · exact Or.inl ⟨a1, by rw [e _ (by omega) (by omega)]; exact a2⟩
    · have hr := (l2 i q a1).2
      exact Or.inr ⟨q, t', a1, a2.kept (fun a a0 a9 => hs a (by omega) (by omega)), a3.kept (fun a a0 a9 => e a (by omega) (by omega)), by rw [e _ (by omega) (by omega)]; exact a4, by rw [e _ (by omega) (by omega)]; exact a5, a6⟩
  · rcases hpl k p hp with ⟨a1, a2⟩ | ⟨a1, a2⟩
    · subst a1
      subst a2
      rw [show kk.toNat - 1 = (kk - 1).toNat by omega, show ((kk.toNat : Nat) : Int) = kk by omega]
      exact ⟨hP, hc, hm⟩
    · obtain ⟨b1, b2, b3⟩ := s9 k p a2
      have hr := (l3 k p a2).2
      exact ⟨⟨(hs _ (by omega) (by omega)).trans b1.1, (hs _ (by omega) (by omega)).trans b1.2⟩, by unfold PlC; rw [e p (by omega) (by omega)]; exact b2, fun w w1 w2 => by rw [e (p + 1) (by omega) (by omega)]; exact b3 w w1 w2⟩
theorem Sim.mono {S : Sh} {μ : Mu} {xa : Nat} {im pl : Nat → Option Nat} {t : BSt} {g : Int → Int} {n B B' : Int} (h : Sim S μ xa im pl t g n B) (hB : B ≤ B') : Sim S μ xa im pl t g n B' := ⟨h.1, h.2.1, h.2.2.1, h.2.2.2.1.mono hB, h.2.2.2.2.1, h.2.2.2.2.2.kp h.1.2.2 (fun _ _ => rfl) hB⟩
section LAW
variable {l : Launch} {G : Glb} {P : Pst} {k : Nat × Nat} {S : Sh} {μ : Mu} {xa : Nat} {im pl : Nat → Option Nat} {t : BSt} {g : Int → Int} {n B i : Int}
set_option maxHeartbeats 4000000 in
set_option maxRecDepth 100000 in
theorem lw_144 (hs : Sim S μ xa im pl t g n B) (hk : KB k im pl) (hB : 0 ≤ B ∧ B ≤ 50000) (hi : 0 ≤ i ∧ i + 4 ≤ (G.2.2.2.2.2.1 : Int)) (hL : G.2.2.2.2.2.1 ≤ 2048) (hh : ∀ (k' : Nat × Nat) (S' : Sh) (μ' : Mu) (im' pl' : Nat → Option Nat) (t' : BSt) (g' : Int → Int) (n' : Int), Sim S' μ' xa im' pl' t' g' n' (B + 42) → KB k' im' pl' → V l G code (x, 4, ret, 1300, 600000, 7302250) P k' S' μ' 756 [.ref G.2.2.2.2.1, .ref xa, .ref (xa + 33), vi i] []) : V l G code (x, 4, ret, 1300, 600000, 7302250) P k S μ 144 [.ref G.2.2.2.2.1, .ref xa, .ref (xa + 33), vi i] [] := by
  have hX := hs.1.1
  have hM := hs.1.2.1
  have hl := hs.2.1
  have hm := hs.2.2.1
  have hok := hs.2.2.2.1
  have hp := hs.2.2.2.2.1
  have hkk : k.1 ≤ 600000 ∧ k.2 ≤ 7302250 := by unfold KB at hk; omega
  refine v_aload_n aL_law_144 rfl ?_
  refine v_aload_n aL_law_145 rfl ?_
  refine v_iload_n aL_law_146 rfl ?_
  refine v_iconst aL_law_147 ?_
  refine v_iadd aL_law_148 ?_
  refine v_sld aL_law_149 (by omega) (by omega) ?_
  refine v_cVe (c_X7_sacks hX hl SC_r) aL_law_150 mX7_sacks vX7_sacks lL_13 hX.p rfl rfl rfl rfl rfl (Nat.le_of_ble_eq_true rfl) hkk (Nat.le_of_ble_eq_true rfl) (fun z1 μ1 ⟨e1, h1, o1⟩ => ?_)
  have hmo := hs.mo o1
  refine v_aload_n aL_law_153 rfl ?_
  refine v_aload_n aL_law_154 rfl ?_
  refine v_iload_n aL_law_155 rfl ?_
  refine v_iconst aL_law_156 ?_
  refine v_iadd aL_law_157 ?_
  refine v_sld aL_law_158 (by omega) (by omega) ?_
  refine v_cVe (c_X8_sacks hM hmo SC_r) aL_law_159 mX8_sacks vX8_sacks lL_17 hM.p rfl rfl rfl rfl rfl (Nat.le_of_ble_eq_true rfl) hkk (Nat.le_of_ble_eq_true rfl) (fun z2 μ2 ⟨e2, h2, o2⟩ => ?_)
  subst e1
  subst e2
  refine v_icmp_eqS 756 rfl aL_law_162 ?_
  exact hh _ _ _ _ _ _ _ _ (hs.upd o1 o2 h1 h2 ((hok.sacks hB.1).mono (by omega)) (hp)) hk
set_option maxHeartbeats 4000000 in
set_option maxRecDepth 100000 in
theorem lw_167 (hs : Sim S μ xa im pl t g n B) (hk : KB k im pl) (hB : 0 ≤ B ∧ B ≤ 50000) (hi : 0 ≤ i ∧ i + 4 ≤ (G.2.2.2.2.2.1 : Int)) (hL : G.2.2.2.2.2.1 ≤ 2048) (hh : ∀ (k' : Nat × Nat) (S' : Sh) (μ' : Mu) (im' pl' : Nat → Option Nat) (t' : BSt) (g' : Int → Int) (n' : Int), Sim S' μ' xa im' pl' t' g' n' (B + 42) → KB k' im' pl' → V l G code (x, 4, ret, 1300, 600000, 7302250) P k' S' μ' 756 [.ref G.2.2.2.2.1, .ref xa, .ref (xa + 33), vi i] []) : V l G code (x, 4, ret, 1300, 600000, 7302250) P k S μ 167 [.ref G.2.2.2.2.1, .ref xa, .ref (xa + 33), vi i] [] := by
  have hX := hs.1.1
  have hM := hs.1.2.1
  have hl := hs.2.1
  have hm := hs.2.2.1
  have hok := hs.2.2.2.1
  have hp := hs.2.2.2.2.1
  have hkk : k.1 ≤ 600000 ∧ k.2 ≤ 7302250 := by unfold KB at hk; omega
  refine v_aload_n aL_law_167 rfl ?_
  refine v_aload_n aL_law_168 rfl ?_
  refine v_iload_n aL_law_169 rfl ?_
  refine v_iconst aL_law_170 ?_
  refine v_iadd aL_law_171 ?_
  refine v_sld aL_law_172 (by omega) (by omega) ?_
  refine v_cVe (c_X7_say hX hl SC_r hp) aL_law_173 mX7_say vX7_say lL_18 hX.p rfl rfl rfl rfl rfl (Nat.le_of_ble_eq_true rfl) hkk (Nat.le_of_ble_eq_true rfl) (fun z1 μ1 ⟨e1, h1, o1⟩ => ?_)
  have hmo := hs.mo o1
  refine v_aload_n aL_law_176 rfl ?_
  refine v_aload_n aL_law_177 rfl ?_
  refine v_iload_n aL_law_178 rfl ?_
  refine v_iconst aL_law_179 ?_
  refine v_iadd aL_law_180 ?_
  refine v_sld aL_law_181 (by omega) (by omega) ?_
  refine v_cVe (c_X8_say hM hmo SC_r hp) aL_law_182 mX8_say vX8_say lL_21 hM.p rfl rfl rfl rfl rfl (Nat.le_of_ble_eq_true rfl) hkk (Nat.le_of_ble_eq_true rfl) (fun z2 μ2 ⟨e2, h2, o2⟩ => ?_)
  subst e1
  subst e2
  refine v_icmp_eqS 756 rfl aL_law_185 ?_
  exact hh _ _ _ _ _ _ _ _ (hs.upd o1 o2 h1 h2 (hok.mono (by omega)) (hp.say)) hk
set_option maxHeartbeats 4000000 in
set_option maxRecDepth 100000 in
theorem lw_190 (hs : Sim S μ xa im pl t g n B) (hk : KB k im pl) (hB : 0 ≤ B ∧ B ≤ 50000) (hi : 0 ≤ i ∧ i + 4 ≤ (G.2.2.2.2.2.1 : Int)) (hL : G.2.2.2.2.2.1 ≤ 2048) (hh : ∀ (k' : Nat × Nat) (S' : Sh) (μ' : Mu) (im' pl' : Nat → Option Nat) (t' : BSt) (g' : Int → Int) (n' : Int), Sim S' μ' xa im' pl' t' g' n' (B + 42) → KB k' im' pl' → V l G code (x, 4, ret, 1300, 600000, 7302250) P k' S' μ' 756 [.ref G.2.2.2.2.1, .ref xa, .ref (xa + 33), vi i] []) : V l G code (x, 4, ret, 1300, 600000, 7302250) P k S μ 190 [.ref G.2.2.2.2.1, .ref xa, .ref (xa + 33), vi i] [] := by
  have hX := hs.1.1
  have hM := hs.1.2.1
  have hl := hs.2.1
  have hm := hs.2.2.1
  have hok := hs.2.2.2.1
  have hp := hs.2.2.2.2.1
  have hkk : k.1 ≤ 600000 ∧ k.2 ≤ 7302250 := by unfold KB at hk; omega
  refine v_aload_n aL_law_190 rfl ?_
  refine v_cVe (c_X7_wipe hX hl) aL_law_191 mX7_wipe vX7_wipe lL_22 hX.p rfl rfl rfl rfl rfl (Nat.le_of_ble_eq_true rfl) hkk (Nat.le_of_ble_eq_true rfl) (fun z1 μ1 ⟨e1, h1, o1⟩ => ?_)
  have hmo := hs.mo o1
  refine v_aload_n aL_law_194 rfl ?_
  refine v_cVe (c_X8_wipe hM hmo) aL_law_195 mX8_wipe vX8_wipe lL_26 hM.p rfl rfl rfl rfl rfl (Nat.le_of_ble_eq_true rfl) hkk (Nat.le_of_ble_eq_true rfl) (fun z2 μ2 ⟨e2, h2, o2⟩ => ?_)
  subst e1
  subst e2
  refine v_icmp_eqS 756 rfl aL_law_198 ?_
  exact hh _ _ _ _ _ _ _ _ (hs.upd o1 o2 h1 h2 (hok.mono (by omega)) (⟨by decide, hp.2⟩)) hk
set_option maxHeartbeats 4000000 in
set_option maxRecDepth 100000 in
theorem lw_203 (hs : Sim S μ xa im pl t g n B) (hk : KB k im pl) (hB : 0 ≤ B ∧ B ≤ 50000) (hi : 0 ≤ i ∧ i + 4 ≤ (G.2.2.2.2.2.1 : Int)) (hL : G.2.2.2.2.2.1 ≤ 2048) (hh : ∀ (k' : Nat × Nat) (S' : Sh) (μ' : Mu) (im' pl' : Nat → Option Nat) (t' : BSt) (g' : Int → Int) (n' : Int), Sim S' μ' xa im' pl' t' g' n' (B + 42) → KB k' im' pl' → V l G code (x, 4, ret, 1300, 600000, 7302250) P k' S' μ' 756 [.ref G.2.2.2.2.1, .ref xa, .ref (xa + 33), vi i] []) : V l G code (x, 4, ret, 1300, 600000, 7302250) P k S μ 203 [.ref G.2.2.2.2.1, .ref xa, .ref (xa + 33), vi i] [] := by
  have hX := hs.1.1
  have hM := hs.1.2.1
  have hl := hs.2.1
  have hm := hs.2.2.1
  have hok := hs.2.2.2.1
  have hp := hs.2.2.2.2.1
  have hkk : k.1 ≤ 600000 ∧ k.2 ≤ 7302250 := by unfold KB at hk; omega
  refine v_aload_n aL_law_203 rfl ?_
  refine v_cVe (c_X7_fault hX hl hok.1 hp) aL_law_204 mX7_fault vX7_fault lL_27 hX.p rfl rfl rfl rfl rfl (Nat.le_of_ble_eq_true rfl) hkk (Nat.le_of_ble_eq_true rfl) (fun z1 μ1 ⟨e1, h1, o1⟩ => ?_)
  have hmo := hs.mo o1
  refine v_aload_n aL_law_207 rfl ?_
  refine v_cVe (c_X8_fault hM hmo hok.1 hp) aL_law_208 mX8_fault vX8_fault lL_30 hM.p rfl rfl rfl rfl rfl (Nat.le_of_ble_eq_true rfl) hkk (Nat.le_of_ble_eq_true rfl) (fun z2 μ2 ⟨e2, h2, o2⟩ => ?_)
  subst e1
  subst e2
  refine v_icmp_eqS 756 rfl aL_law_211 ?_
  exact hh _ _ _ _ _ _ _ _ (hs.upd o1 o2 h1 h2 (hok.mono (by omega)) (hp)) hk
set_option maxHeartbeats 4000000 in
set_option maxRecDepth 100000 in
theorem lw_216 (hs : Sim S μ xa im pl t g n B) (hk : KB k im pl) (hB : 0 ≤ B ∧ B ≤ 50000) (hi : 0 ≤ i ∧ i + 4 ≤ (G.2.2.2.2.2.1 : Int)) (hL : G.2.2.2.2.2.1 ≤ 2048) (hh : ∀ (k' : Nat × Nat) (S' : Sh) (μ' : Mu) (im' pl' : Nat → Option Nat) (t' : BSt) (g' : Int → Int) (n' : Int), Sim S' μ' xa im' pl' t' g' n' (B + 42) → KB k' im' pl' → V l G code (x, 4, ret, 1300, 600000, 7302250) P k' S' μ' 756 [.ref G.2.2.2.2.1, .ref xa, .ref (xa + 33), vi i] []) : V l G code (x, 4, ret, 1300, 600000, 7302250) P k S μ 216 [.ref G.2.2.2.2.1, .ref xa, .ref (xa + 33), vi i] [] := by
  have hX := hs.1.1
  have hM := hs.1.2.1
  have hl := hs.2.1
  have hm := hs.2.2.1
  have hok := hs.2.2.2.1
  have hp := hs.2.2.2.2.1
  have hkk : k.1 ≤ 600000 ∧ k.2 ≤ 7302250 := by unfold KB at hk; omega
  refine v_aload_n aL_law_216 rfl ?_
  refine v_cVe (c_X7_line hX hl hok.1 hok.2.1 hp (fun q => ⟨(fault_line hok.1 hp q).1, (fault_line hok.1 hp q).2.2.1⟩) (by have := fault_r (t := t) hp; have := hp.1; omega)) aL_law_217 mX7_line vX7_line lL_31 hX.p rfl rfl rfl rfl rfl (Nat.le_of_ble_eq_true rfl) hkk (Nat.le_of_ble_eq_true rfl) (fun z1 μ1 ⟨e1, h1, o1⟩ => ?_)
  have hmo := hs.mo o1
  refine v_aload_n aL_law_220 rfl ?_
  refine v_cVe (c_X8_line hM hmo hok.1 hok.2.1 hp (fun q => ⟨(fault_line hok.1 hp q).1, (fault_line hok.1 hp q).2.1⟩) (by have := fault_r (t := t) hp; have := hp.1; omega)) aL_law_221 mX8_line vX8_line lL_34 hM.p rfl rfl rfl rfl rfl (Nat.le_of_ble_eq_true rfl) hkk (Nat.le_of_ble_eq_true rfl) (fun z2 μ2 ⟨e2, h2, o2⟩ => ?_)
  subst e1
  subst e2
  refine v_icmp_eqS 756 rfl aL_law_224 ?_
  exact hh _ _ _ _ _ _ _ _ (hs.upd o1 o2 h1 h2 ((hok.line hp).1) ((hok.line hp).2)) hk
set_option maxHeartbeats 4000000 in
set_option maxRecDepth 100000 in
theorem lw_229 (hs : Sim S μ xa im pl t g n B) (hk : KB k im pl) (hB : 0 ≤ B ∧ B ≤ 50000) (hi : 0 ≤ i ∧ i + 4 ≤ (G.2.2.2.2.2.1 : Int)) (hL : G.2.2.2.2.2.1 ≤ 2048) (hh : ∀ (k' : Nat × Nat) (S' : Sh) (μ' : Mu) (im' pl' : Nat → Option Nat) (t' : BSt) (g' : Int → Int) (n' : Int), Sim S' μ' xa im' pl' t' g' n' (B + 42) → KB k' im' pl' → V l G code (x, 4, ret, 1300, 600000, 7302250) P k' S' μ' 756 [.ref G.2.2.2.2.1, .ref xa, .ref (xa + 33), vi i] []) : V l G code (x, 4, ret, 1300, 600000, 7302250) P k S μ 229 [.ref G.2.2.2.2.1, .ref xa, .ref (xa + 33), vi i] [] := by
  have hX := hs.1.1
  have hM := hs.1.2.1
  have hl := hs.2.1
  have hm := hs.2.2.1
  have hok := hs.2.2.2.1
  have hp := hs.2.2.2.2.1
  have hkk : k.1 ≤ 600000 ∧ k.2 ≤ 7302250 := by unfold KB at hk; omega
  refine v_aload_n aL_law_229 rfl ?_
  refine v_cVe (c_X7_strike hX hl hok.2.1) aL_law_230 mX7_strike vX7_strike lL_35 hX.p rfl rfl rfl rfl rfl (Nat.le_of_ble_eq_true rfl) hkk (Nat.le_of_ble_eq_true rfl) (fun z1 μ1 ⟨e1, h1, o1⟩ => ?_)
  have hmo := hs.mo o1
  refine v_aload_n aL_law_233 rfl ?_
  refine v_cVe (c_X8_strike hM hmo hok.2.1) aL_law_234 mX8_strike vX8_strike lL_38 hM.p rfl rfl rfl rfl rfl (Nat.le_of_ble_eq_true rfl) hkk (Nat.le_of_ble_eq_true rfl) (fun z2 μ2 ⟨e2, h2, o2⟩ => ?_)
  subst e1
  subst e2
  refine v_icmp_eqS 756 rfl aL_law_237 ?_
  exact hh _ _ _ _ _ _ _ _ (hs.upd o1 o2 h1 h2 (hok.strike.mono (by omega)) (hp)) hk
set_option maxHeartbeats 4000000 in
set_option maxRecDepth 100000 in
theorem lw_242 (hs : Sim S μ xa im pl t g n B) (hk : KB k im pl) (hB : 0 ≤ B ∧ B ≤ 50000) (hi : 0 ≤ i ∧ i + 4 ≤ (G.2.2.2.2.2.1 : Int)) (hL : G.2.2.2.2.2.1 ≤ 2048) (hh : ∀ (k' : Nat × Nat) (S' : Sh) (μ' : Mu) (im' pl' : Nat → Option Nat) (t' : BSt) (g' : Int → Int) (n' : Int), Sim S' μ' xa im' pl' t' g' n' (B + 42) → KB k' im' pl' → V l G code (x, 4, ret, 1300, 600000, 7302250) P k' S' μ' 756 [.ref G.2.2.2.2.1, .ref xa, .ref (xa + 33), vi i] []) : V l G code (x, 4, ret, 1300, 600000, 7302250) P k S μ 242 [.ref G.2.2.2.2.1, .ref xa, .ref (xa + 33), vi i] [] := by
  have hX := hs.1.1
  have hM := hs.1.2.1
  have hl := hs.2.1
  have hm := hs.2.2.1
  have hok := hs.2.2.2.1
  have hp := hs.2.2.2.2.1
  have hkk : k.1 ≤ 600000 ∧ k.2 ≤ 7302250 := by unfold KB at hk; omega
  refine v_aload_n aL_law_242 rfl ?_
  refine v_aload_n aL_law_243 rfl ?_
  refine v_iload_n aL_law_244 rfl ?_
  refine v_iconst aL_law_245 ?_
  refine v_iadd aL_law_246 ?_
  refine v_sld aL_law_247 (by omega) (by omega) ?_
  refine v_aload_n aL_law_248 rfl ?_
  refine v_iload_n aL_law_249 rfl ?_
  refine v_iconst aL_law_250 ?_
  refine v_iadd aL_law_251 ?_
  refine v_sld aL_law_252 (by omega) (by omega) ?_
  refine v_cVe (c_X7_saying hX hl SC_r SC_r hok.2.1) aL_law_253 mX7_saying vX7_saying lL_39 hX.p rfl rfl rfl rfl rfl (Nat.le_of_ble_eq_true rfl) hkk (Nat.le_of_ble_eq_true rfl) (fun z1 μ1 ⟨e1, h1, o1⟩ => ?_)
  have hmo := hs.mo o1
  refine v_aload_n aL_law_256 rfl ?_
  refine v_aload_n aL_law_257 rfl ?_
  refine v_iload_n aL_law_258 rfl ?_
  refine v_iconst aL_law_259 ?_
  refine v_iadd aL_law_260 ?_
  refine v_sld aL_law_261 (by omega) (by omega) ?_
  refine v_aload_n aL_law_262 rfl ?_
  refine v_iload_n aL_law_263 rfl ?_
  refine v_iconst aL_law_264 ?_
  refine v_iadd aL_law_265 ?_
  refine v_sld aL_law_266 (by omega) (by omega) ?_
  refine v_cVe (c_X8_saying hM hmo SC_r SC_r hok.2.1) aL_law_267 mX8_saying vX8_saying lL_43 hM.p rfl rfl rfl rfl rfl (Nat.le_of_ble_eq_true rfl) hkk (Nat.le_of_ble_eq_true rfl) (fun z2 μ2 ⟨e2, h2, o2⟩ => ?_)
  subst e1
  subst e2
  refine v_icmp_eqS 756 rfl aL_law_270 ?_
  exact hh _ _ _ _ _ _ _ _ (hs.upd o1 o2 h1 h2 (hok.mono (by omega)) (hp)) hk
set_option maxHeartbeats 4000000 in
set_option maxRecDepth 100000 in
theorem lw_275 (hs : Sim S μ xa im pl t g n B) (hk : KB k im pl) (hB : 0 ≤ B ∧ B ≤ 50000) (hi : 0 ≤ i ∧ i + 4 ≤ (G.2.2.2.2.2.1 : Int)) (hL : G.2.2.2.2.2.1 ≤ 2048) (hh : ∀ (k' : Nat × Nat) (S' : Sh) (μ' : Mu) (im' pl' : Nat → Option Nat) (t' : BSt) (g' : Int → Int) (n' : Int), Sim S' μ' xa im' pl' t' g' n' (B + 42) → KB k' im' pl' → V l G code (x, 4, ret, 1300, 600000, 7302250) P k' S' μ' 756 [.ref G.2.2.2.2.1, .ref xa, .ref (xa + 33), vi i] []) : V l G code (x, 4, ret, 1300, 600000, 7302250) P k S μ 275 [.ref G.2.2.2.2.1, .ref xa, .ref (xa + 33), vi i] [] := by
  have hX := hs.1.1
  have hM := hs.1.2.1
  have hl := hs.2.1
  have hm := hs.2.2.1
  have hok := hs.2.2.2.1
  have hp := hs.2.2.2.2.1
  have hkk : k.1 ≤ 600000 ∧ k.2 ≤ 7302250 := by unfold KB at hk; omega
  refine v_aload_n aL_law_275 rfl ?_
  refine v_aload_n aL_law_276 rfl ?_
  refine v_iload_n aL_law_277 rfl ?_
  refine v_iconst aL_law_278 ?_
  refine v_iadd aL_law_279 ?_
  refine v_sld aL_law_280 (by omega) (by omega) ?_
  refine v_aload_n aL_law_281 rfl ?_
  refine v_iload_n aL_law_282 rfl ?_
  refine v_iconst aL_law_283 ?_
  refine v_iadd aL_law_284 ?_
  refine v_sld aL_law_285 (by omega) (by omega) ?_
  refine v_cVe (c_X7_follows hX hl hok SC_r SC_r) aL_law_286 mX7_follows vX7_follows lL_44 hX.p rfl rfl rfl rfl rfl (Nat.le_of_ble_eq_true rfl) hkk (Nat.le_of_ble_eq_true rfl) (fun z1 μ1 ⟨e1, h1, o1⟩ => ?_)
  have hmo := hs.mo o1
  refine v_aload_n aL_law_289 rfl ?_
  refine v_aload_n aL_law_290 rfl ?_
  refine v_iload_n aL_law_291 rfl ?_
  refine v_iconst aL_law_292 ?_
  refine v_iadd aL_law_293 ?_
  refine v_sld aL_law_294 (by omega) (by omega) ?_
  refine v_aload_n aL_law_295 rfl ?_
  refine v_iload_n aL_law_296 rfl ?_
  refine v_iconst aL_law_297 ?_
  refine v_iadd aL_law_298 ?_
  refine v_sld aL_law_299 (by omega) (by omega) ?_
  refine v_cVe (c_X8_follows hM hmo hok SC_r SC_r) aL_law_300 mX8_follows vX8_follows lL_47 hM.p rfl rfl rfl rfl rfl (Nat.le_of_ble_eq_true rfl) hkk (Nat.le_of_ble_eq_true rfl) (fun z2 μ2 ⟨e2, h2, o2⟩ => ?_)
  subst e1
  subst e2
  refine v_icmp_eqS 756 rfl aL_law_303 ?_
  exact hh _ _ _ _ _ _ _ _ (hs.upd o1 o2 h1 h2 (hok.mono (by omega)) (hp)) hk
set_option maxHeartbeats 4000000 in
set_option maxRecDepth 100000 in
theorem lw_308 (hs : Sim S μ xa im pl t g n B) (hk : KB k im pl) (hB : 0 ≤ B ∧ B ≤ 50000) (hi : 0 ≤ i ∧ i + 4 ≤ (G.2.2.2.2.2.1 : Int)) (hL : G.2.2.2.2.2.1 ≤ 2048) (hh : ∀ (k' : Nat × Nat) (S' : Sh) (μ' : Mu) (im' pl' : Nat → Option Nat) (t' : BSt) (g' : Int → Int) (n' : Int), Sim S' μ' xa im' pl' t' g' n' (B + 42) → KB k' im' pl' → V l G code (x, 4, ret, 1300, 600000, 7302250) P k' S' μ' 756 [.ref G.2.2.2.2.1, .ref xa, .ref (xa + 33), vi i] []) : V l G code (x, 4, ret, 1300, 600000, 7302250) P k S μ 308 [.ref G.2.2.2.2.1, .ref xa, .ref (xa + 33), vi i] [] := by
  have hX := hs.1.1
  have hM := hs.1.2.1
  have hl := hs.2.1
  have hm := hs.2.2.1
  have hok := hs.2.2.2.1
  have hp := hs.2.2.2.2.1
  have hkk : k.1 ≤ 600000 ∧ k.2 ≤ 7302250 := by unfold KB at hk; omega
  refine v_aload_n aL_law_308 rfl ?_
  refine v_aload_n aL_law_309 rfl ?_
  refine v_iload_n aL_law_310 rfl ?_
  refine v_iconst aL_law_311 ?_
  refine v_iadd aL_law_312 ?_
  refine v_sld aL_law_313 (by omega) (by omega) ?_
  refine v_cVe (c_X7_open hX hl hok SC_r) aL_law_314 mX7_open vX7_open lL_48 hX.p rfl rfl rfl rfl rfl (Nat.le_of_ble_eq_true rfl) hkk (Nat.le_of_ble_eq_true rfl) (fun z1 μ1 ⟨e1, h1, o1⟩ => ?_)
  have hmo := hs.mo o1
  refine v_aload_n aL_law_317 rfl ?_
  refine v_aload_n aL_law_318 rfl ?_
  refine v_iload_n aL_law_319 rfl ?_
  refine v_iconst aL_law_320 ?_
  refine v_iadd aL_law_321 ?_
  refine v_sld aL_law_322 (by omega) (by omega) ?_
  refine v_cVe (c_X8_open hM hmo hok SC_r) aL_law_323 mX8_open vX8_open lL_51 hM.p rfl rfl rfl rfl rfl (Nat.le_of_ble_eq_true rfl) hkk (Nat.le_of_ble_eq_true rfl) (fun z2 μ2 ⟨e2, h2, o2⟩ => ?_)
  subst e1
  subst e2
  refine v_icmp_eqS 756 rfl aL_law_326 ?_
  exact hh _ _ _ _ _ _ _ _ (hs.upd o1 o2 h1 h2 (hok.mono (by omega)) (hp)) hk
set_option maxHeartbeats 4000000 in
set_option maxRecDepth 100000 in
theorem lw_331 (hs : Sim S μ xa im pl t g n B) (hk : KB k im pl) (hB : 0 ≤ B ∧ B ≤ 50000) (hi : 0 ≤ i ∧ i + 4 ≤ (G.2.2.2.2.2.1 : Int)) (hL : G.2.2.2.2.2.1 ≤ 2048) (hh : ∀ (k' : Nat × Nat) (S' : Sh) (μ' : Mu) (im' pl' : Nat → Option Nat) (t' : BSt) (g' : Int → Int) (n' : Int), Sim S' μ' xa im' pl' t' g' n' (B + 42) → KB k' im' pl' → V l G code (x, 4, ret, 1300, 600000, 7302250) P k' S' μ' 756 [.ref G.2.2.2.2.1, .ref xa, .ref (xa + 33), vi i] []) : V l G code (x, 4, ret, 1300, 600000, 7302250) P k S μ 331 [.ref G.2.2.2.2.1, .ref xa, .ref (xa + 33), vi i] [] := by
  have hX := hs.1.1
  have hM := hs.1.2.1
  have hl := hs.2.1
  have hm := hs.2.2.1
  have hok := hs.2.2.2.1
  have hp := hs.2.2.2.2.1
  have hkk : k.1 ≤ 600000 ∧ k.2 ≤ 7302250 := by unfold KB at hk; omega
  refine v_aload_n aL_law_331 rfl ?_
  refine v_aload_n aL_law_332 rfl ?_
  refine v_iload_n aL_law_333 rfl ?_
  refine v_iconst aL_law_334 ?_
  refine v_iadd aL_law_335 ?_
  refine v_sld aL_law_336 (by omega) (by omega) ?_
  refine v_aload_n aL_law_337 rfl ?_
  refine v_iload_n aL_law_338 rfl ?_
  refine v_iconst aL_law_339 ?_
  refine v_iadd aL_law_340 ?_
  refine v_sld aL_law_341 (by omega) (by omega) ?_
  refine v_cVe (c_X7_rank hX hl hok SC_r SC_r) aL_law_342 mX7_rank vX7_rank lL_52 hX.p rfl rfl rfl rfl rfl (Nat.le_of_ble_eq_true rfl) hkk (Nat.le_of_ble_eq_true rfl) (fun z1 μ1 ⟨e1, h1, o1⟩ => ?_)
  have hmo := hs.mo o1
  refine v_aload_n aL_law_345 rfl ?_
  refine v_aload_n aL_law_346 rfl ?_
  refine v_iload_n aL_law_347 rfl ?_
  refine v_iconst aL_law_348 ?_
  refine v_iadd aL_law_349 ?_
  refine v_sld aL_law_350 (by omega) (by omega) ?_
  refine v_aload_n aL_law_351 rfl ?_
  refine v_iload_n aL_law_352 rfl ?_
  refine v_iconst aL_law_353 ?_
  refine v_iadd aL_law_354 ?_
  refine v_sld aL_law_355 (by omega) (by omega) ?_
  refine v_cVe (c_X8_rank hM hmo hok SC_r SC_r) aL_law_356 mX8_rank vX8_rank lL_55 hM.p rfl rfl rfl rfl rfl (Nat.le_of_ble_eq_true rfl) hkk (Nat.le_of_ble_eq_true rfl) (fun z2 μ2 ⟨e2, h2, o2⟩ => ?_)
  subst e1
  subst e2
  refine v_icmp_eqS 756 rfl aL_law_359 ?_
  exact hh _ _ _ _ _ _ _ _ (hs.upd o1 o2 h1 h2 (hok.mono (by omega)) (hp)) hk
set_option maxHeartbeats 4000000 in
set_option maxRecDepth 100000 in
theorem lw_364 (hs : Sim S μ xa im pl t g n B) (hk : KB k im pl) (hB : 0 ≤ B ∧ B ≤ 50000) (hi : 0 ≤ i ∧ i + 4 ≤ (G.2.2.2.2.2.1 : Int)) (hL : G.2.2.2.2.2.1 ≤ 2048) (hh : ∀ (k' : Nat × Nat) (S' : Sh) (μ' : Mu) (im' pl' : Nat → Option Nat) (t' : BSt) (g' : Int → Int) (n' : Int), Sim S' μ' xa im' pl' t' g' n' (B + 42) → KB k' im' pl' → V l G code (x, 4, ret, 1300, 600000, 7302250) P k' S' μ' 756 [.ref G.2.2.2.2.1, .ref xa, .ref (xa + 33), vi i] []) : V l G code (x, 4, ret, 1300, 600000, 7302250) P k S μ 364 [.ref G.2.2.2.2.1, .ref xa, .ref (xa + 33), vi i] [] := by
  have hX := hs.1.1
  have hM := hs.1.2.1
  have hl := hs.2.1
  have hm := hs.2.2.1
  have hok := hs.2.2.2.1
  have hp := hs.2.2.2.2.1
  have hkk : k.1 ≤ 600000 ∧ k.2 ≤ 7302250 := by unfold KB at hk; omega
  refine v_aload_n aL_law_364 rfl ?_
  refine v_cVe (c_X7_orders hX hl hok) aL_law_365 mX7_orders vX7_orders lL_56 hX.p rfl rfl rfl rfl rfl (Nat.le_of_ble_eq_true rfl) hkk (Nat.le_of_ble_eq_true rfl) (fun z1 μ1 ⟨e1, h1, o1⟩ => ?_)
  have hmo := hs.mo o1
  refine v_aload_n aL_law_368 rfl ?_
  refine v_cVe (c_X8_orders hM hmo hok) aL_law_369 mX8_orders vX8_orders lL_59 hM.p rfl rfl rfl rfl rfl (Nat.le_of_ble_eq_true rfl) hkk (Nat.le_of_ble_eq_true rfl) (fun z2 μ2 ⟨e2, h2, o2⟩ => ?_)
  obtain rfl := OrdQ_un hok.1 e1 e2
  refine v_icmp_eqS 756 rfl aL_law_372 ?_
  exact hh _ _ _ _ _ _ _ _ (hs.upd o1 o2 h1 h2 (hok.mono (by omega)) (hp)) hk
set_option maxHeartbeats 4000000 in
set_option maxRecDepth 100000 in
theorem lw_377 (hs : Sim S μ xa im pl t g n B) (hk : KB k im pl) (hB : 0 ≤ B ∧ B ≤ 50000) (hi : 0 ≤ i ∧ i + 4 ≤ (G.2.2.2.2.2.1 : Int)) (hL : G.2.2.2.2.2.1 ≤ 2048) (hh : ∀ (k' : Nat × Nat) (S' : Sh) (μ' : Mu) (im' pl' : Nat → Option Nat) (t' : BSt) (g' : Int → Int) (n' : Int), Sim S' μ' xa im' pl' t' g' n' (B + 42) → KB k' im' pl' → V l G code (x, 4, ret, 1300, 600000, 7302250) P k' S' μ' 756 [.ref G.2.2.2.2.1, .ref xa, .ref (xa + 33), vi i] []) : V l G code (x, 4, ret, 1300, 600000, 7302250) P k S μ 377 [.ref G.2.2.2.2.1, .ref xa, .ref (xa + 33), vi i] [] := by
  have hX := hs.1.1
  have hM := hs.1.2.1
  have hl := hs.2.1
  have hm := hs.2.2.1
  have hok := hs.2.2.2.1
  have hp := hs.2.2.2.2.1
  have hkk : k.1 ≤ 600000 ∧ k.2 ≤ 7302250 := by unfold KB at hk; omega
  refine v_aload_n aL_law_377 rfl ?_
  refine v_aload_n aL_law_378 rfl ?_
  refine v_iload_n aL_law_379 rfl ?_
  refine v_iconst aL_law_380 ?_
  refine v_iadd aL_law_381 ?_
  refine v_sld aL_law_382 (by omega) (by omega) ?_
  refine v_aload_n aL_law_383 rfl ?_
  refine v_iload_n aL_law_384 rfl ?_
  refine v_iconst aL_law_385 ?_
  refine v_iadd aL_law_386 ?_
  refine v_sld aL_law_387 (by omega) (by omega) ?_
  refine v_cVe (c_X7_toll hX hl SC_r SC_r) aL_law_388 mX7_toll vX7_toll lL_60 hX.p rfl rfl rfl rfl rfl (Nat.le_of_ble_eq_true rfl) hkk (Nat.le_of_ble_eq_true rfl) (fun z1 μ1 ⟨e1, h1, o1⟩ => ?_)
  have hmo := hs.mo o1
  refine v_aload_n aL_law_391 rfl ?_
  refine v_aload_n aL_law_392 rfl ?_
  refine v_iload_n aL_law_393 rfl ?_
  refine v_iconst aL_law_394 ?_
  refine v_iadd aL_law_395 ?_
  refine v_sld aL_law_396 (by omega) (by omega) ?_
  refine v_aload_n aL_law_397 rfl ?_
  refine v_iload_n aL_law_398 rfl ?_
  refine v_iconst aL_law_399 ?_
  refine v_iadd aL_law_400 ?_
  refine v_sld aL_law_401 (by omega) (by omega) ?_
  refine v_cVe (c_X8_toll hM hmo SC_r SC_r) aL_law_402 mX8_toll vX8_toll lL_63 hM.p rfl rfl rfl rfl rfl (Nat.le_of_ble_eq_true rfl) hkk (Nat.le_of_ble_eq_true rfl) (fun z2 μ2 ⟨e2, h2, o2⟩ => ?_)
  subst e1
  subst e2
  refine v_icmp_eqS 756 rfl aL_law_405 ?_
  exact hh _ _ _ _ _ _ _ _ (hs.upd o1 o2 h1 h2 (hok.toll.mono (by omega)) (hp)) hk
set_option maxHeartbeats 4000000 in
set_option maxRecDepth 100000 in
theorem lw_410 (hs : Sim S μ xa im pl t g n B) (hk : KB k im pl) (hB : 0 ≤ B ∧ B ≤ 50000) (hi : 0 ≤ i ∧ i + 4 ≤ (G.2.2.2.2.2.1 : Int)) (hL : G.2.2.2.2.2.1 ≤ 2048) (hh : ∀ (k' : Nat × Nat) (S' : Sh) (μ' : Mu) (im' pl' : Nat → Option Nat) (t' : BSt) (g' : Int → Int) (n' : Int), Sim S' μ' xa im' pl' t' g' n' (B + 42) → KB k' im' pl' → V l G code (x, 4, ret, 1300, 600000, 7302250) P k' S' μ' 756 [.ref G.2.2.2.2.1, .ref xa, .ref (xa + 33), vi i] []) : V l G code (x, 4, ret, 1300, 600000, 7302250) P k S μ 410 [.ref G.2.2.2.2.1, .ref xa, .ref (xa + 33), vi i] [] := by
  have hX := hs.1.1
  have hM := hs.1.2.1
  have hl := hs.2.1
  have hm := hs.2.2.1
  have hok := hs.2.2.2.1
  have hp := hs.2.2.2.2.1
  have hkk : k.1 ≤ 600000 ∧ k.2 ≤ 7302250 := by unfold KB at hk; omega
  refine v_aload_n aL_law_410 rfl ?_
  refine v_aload_n aL_law_411 rfl ?_
  refine v_iload_n aL_law_412 rfl ?_
  refine v_iconst aL_law_413 ?_
  refine v_iadd aL_law_414 ?_
  refine v_sld aL_law_415 (by omega) (by omega) ?_
  refine v_aload_n aL_law_416 rfl ?_
  refine v_iload_n aL_law_417 rfl ?_
  refine v_iconst aL_law_418 ?_
  refine v_iadd aL_law_419 ?_
  refine v_sld aL_law_420 (by omega) (by omega) ?_
  refine v_cVe (c_X7_pays hX hl hok SC_r SC_r) aL_law_421 mX7_pays vX7_pays lL_64 hX.p rfl rfl rfl rfl rfl (Nat.le_of_ble_eq_true rfl) hkk (Nat.le_of_ble_eq_true rfl) (fun z1 μ1 ⟨e1, h1, o1⟩ => ?_)
  have hmo := hs.mo o1
  refine v_aload_n aL_law_424 rfl ?_
  refine v_aload_n aL_law_425 rfl ?_
  refine v_iload_n aL_law_426 rfl ?_
  refine v_iconst aL_law_427 ?_
  refine v_iadd aL_law_428 ?_
  refine v_sld aL_law_429 (by omega) (by omega) ?_
  refine v_aload_n aL_law_430 rfl ?_
  refine v_iload_n aL_law_431 rfl ?_
  refine v_iconst aL_law_432 ?_
  refine v_iadd aL_law_433 ?_
  refine v_sld aL_law_434 (by omega) (by omega) ?_
  refine v_cVe (c_X8_pays hM hmo hok SC_r SC_r) aL_law_435 mX8_pays vX8_pays lL_67 hM.p rfl rfl rfl rfl rfl (Nat.le_of_ble_eq_true rfl) hkk (Nat.le_of_ble_eq_true rfl) (fun z2 μ2 ⟨e2, h2, o2⟩ => ?_)
  subst e1
  subst e2
  refine v_icmp_eqS 756 rfl aL_law_438 ?_
  exact hh _ _ _ _ _ _ _ _ (hs.upd o1 o2 h1 h2 (hok.mono (by omega)) (hp)) hk
set_option maxHeartbeats 4000000 in
set_option maxRecDepth 100000 in
theorem lw_476 (hs : Sim S μ xa im pl t g n B) (hk : KB k im pl) (hB : 0 ≤ B ∧ B ≤ 50000) (hi : 0 ≤ i ∧ i + 4 ≤ (G.2.2.2.2.2.1 : Int)) (hL : G.2.2.2.2.2.1 ≤ 2048) (hh : ∀ (k' : Nat × Nat) (S' : Sh) (μ' : Mu) (im' pl' : Nat → Option Nat) (t' : BSt) (g' : Int → Int) (n' : Int), Sim S' μ' xa im' pl' t' g' n' (B + 42) → KB k' im' pl' → V l G code (x, 4, ret, 1300, 600000, 7302250) P k' S' μ' 756 [.ref G.2.2.2.2.1, .ref xa, .ref (xa + 33), vi i] []) : V l G code (x, 4, ret, 1300, 600000, 7302250) P k S μ 476 [.ref G.2.2.2.2.1, .ref xa, .ref (xa + 33), vi i] [] := by
  have hX := hs.1.1
  have hM := hs.1.2.1
  have hl := hs.2.1
  have hm := hs.2.2.1
  have hok := hs.2.2.2.1
  have hp := hs.2.2.2.2.1
  have hkk : k.1 ≤ 600000 ∧ k.2 ≤ 7302250 := by unfold KB at hk; omega
  refine v_aload_n aL_law_476 rfl ?_
  refine v_aload_n aL_law_477 rfl ?_
  refine v_iload_n aL_law_478 rfl ?_
  refine v_iconst aL_law_479 ?_
  refine v_iadd aL_law_480 ?_
  refine v_sld aL_law_481 (by omega) (by omega) ?_
  refine v_aload_n aL_law_482 rfl ?_
  refine v_iload_n aL_law_483 rfl ?_
  refine v_iconst aL_law_484 ?_
  refine v_iadd aL_law_485 ?_
  refine v_sld aL_law_486 (by omega) (by omega) ?_
  refine v_aload_n aL_law_487 rfl ?_
  refine v_iload_n aL_law_488 rfl ?_
  refine v_iconst aL_law_489 ?_
  refine v_iadd aL_law_490 ?_
  refine v_sld aL_law_491 (by omega) (by omega) ?_
  refine v_cVe (c_X7_known hX hl SC_r SC_r SC_r hok.1) aL_law_492 mX7_known vX7_known lL_72 hX.p rfl rfl rfl rfl rfl (Nat.le_of_ble_eq_true rfl) hkk (Nat.le_of_ble_eq_true rfl) (fun z1 μ1 ⟨e1, h1, o1⟩ => ?_)
  have hmo := hs.mo o1
  refine v_aload_n aL_law_495 rfl ?_
  refine v_aload_n aL_law_496 rfl ?_
  refine v_iload_n aL_law_497 rfl ?_
  refine v_iconst aL_law_498 ?_
  refine v_iadd aL_law_499 ?_
  refine v_sld aL_law_500 (by omega) (by omega) ?_
  refine v_aload_n aL_law_501 rfl ?_
  refine v_iload_n aL_law_502 rfl ?_
  refine v_iconst aL_law_503 ?_
  refine v_iadd aL_law_504 ?_
  refine v_sld aL_law_505 (by omega) (by omega) ?_
  refine v_aload_n aL_law_506 rfl ?_
  refine v_iload_n aL_law_507 rfl ?_
  refine v_iconst aL_law_508 ?_
  refine v_iadd aL_law_509 ?_
  refine v_sld aL_law_510 (by omega) (by omega) ?_
  refine v_cVe (c_X8_known hM hmo SC_r SC_r SC_r hok.1) aL_law_511 mX8_known vX8_known lL_76 hM.p rfl rfl rfl rfl rfl (Nat.le_of_ble_eq_true rfl) hkk (Nat.le_of_ble_eq_true rfl) (fun z2 μ2 ⟨e2, h2, o2⟩ => ?_)
  subst e1
  subst e2
  refine v_icmp_eqS 756 rfl aL_law_514 ?_
  exact hh _ _ _ _ _ _ _ _ (hs.upd o1 o2 h1 h2 (hok.known.mono (by omega)) (hp)) hk
set_option maxHeartbeats 4000000 in
set_option maxRecDepth 100000 in
theorem lw_519 (hs : Sim S μ xa im pl t g n B) (hk : KB k im pl) (hB : 0 ≤ B ∧ B ≤ 50000) (hi : 0 ≤ i ∧ i + 4 ≤ (G.2.2.2.2.2.1 : Int)) (hL : G.2.2.2.2.2.1 ≤ 2048) (hh : ∀ (k' : Nat × Nat) (S' : Sh) (μ' : Mu) (im' pl' : Nat → Option Nat) (t' : BSt) (g' : Int → Int) (n' : Int), Sim S' μ' xa im' pl' t' g' n' (B + 42) → KB k' im' pl' → V l G code (x, 4, ret, 1300, 600000, 7302250) P k' S' μ' 756 [.ref G.2.2.2.2.1, .ref xa, .ref (xa + 33), vi i] []) : V l G code (x, 4, ret, 1300, 600000, 7302250) P k S μ 519 [.ref G.2.2.2.2.1, .ref xa, .ref (xa + 33), vi i] [] := by
  have hX := hs.1.1
  have hM := hs.1.2.1
  have hl := hs.2.1
  have hm := hs.2.2.1
  have hok := hs.2.2.2.1
  have hp := hs.2.2.2.2.1
  have hkk : k.1 ≤ 600000 ∧ k.2 ≤ 7302250 := by unfold KB at hk; omega
  refine v_aload_n aL_law_519 rfl ?_
  refine v_aload_n aL_law_520 rfl ?_
  refine v_iload_n aL_law_521 rfl ?_
  refine v_iconst aL_law_522 ?_
  refine v_iadd aL_law_523 ?_
  refine v_sld aL_law_524 (by omega) (by omega) ?_
  refine v_cVe (c_X7_loss hX hl SC_r) aL_law_525 mX7_loss vX7_loss lL_77 hX.p rfl rfl rfl rfl rfl (Nat.le_of_ble_eq_true rfl) hkk (Nat.le_of_ble_eq_true rfl) (fun z1 μ1 ⟨e1, h1, o1⟩ => ?_)
  have hmo := hs.mo o1
  refine v_aload_n aL_law_528 rfl ?_
  refine v_aload_n aL_law_529 rfl ?_
  refine v_iload_n aL_law_530 rfl ?_
  refine v_iconst aL_law_531 ?_
  refine v_iadd aL_law_532 ?_
  refine v_sld aL_law_533 (by omega) (by omega) ?_
  refine v_cVe (c_X8_loss hM hmo SC_r) aL_law_534 mX8_loss vX8_loss lL_80 hM.p rfl rfl rfl rfl rfl (Nat.le_of_ble_eq_true rfl) hkk (Nat.le_of_ble_eq_true rfl) (fun z2 μ2 ⟨e2, h2, o2⟩ => ?_)
  subst e1
  subst e2
  refine v_icmp_eqS 756 rfl aL_law_537 ?_
  exact hh _ _ _ _ _ _ _ _ (hs.upd o1 o2 h1 h2 (hok.loss.mono (by omega)) (hp)) hk
set_option maxHeartbeats 4000000 in
set_option maxRecDepth 100000 in
theorem lw_542 (hs : Sim S μ xa im pl t g n B) (hk : KB k im pl) (hB : 0 ≤ B ∧ B ≤ 50000) (hi : 0 ≤ i ∧ i + 4 ≤ (G.2.2.2.2.2.1 : Int)) (hL : G.2.2.2.2.2.1 ≤ 2048) (hh : ∀ (k' : Nat × Nat) (S' : Sh) (μ' : Mu) (im' pl' : Nat → Option Nat) (t' : BSt) (g' : Int → Int) (n' : Int), Sim S' μ' xa im' pl' t' g' n' (B + 42) → KB k' im' pl' → V l G code (x, 4, ret, 1300, 600000, 7302250) P k' S' μ' 756 [.ref G.2.2.2.2.1, .ref xa, .ref (xa + 33), vi i] []) : V l G code (x, 4, ret, 1300, 600000, 7302250) P k S μ 542 [.ref G.2.2.2.2.1, .ref xa, .ref (xa + 33), vi i] [] := by
  have hX := hs.1.1
  have hM := hs.1.2.1
  have hl := hs.2.1
  have hm := hs.2.2.1
  have hok := hs.2.2.2.1
  have hp := hs.2.2.2.2.1
  have hkk : k.1 ≤ 600000 ∧ k.2 ≤ 7302250 := by unfold KB at hk; omega
  refine v_aload_n aL_law_542 rfl ?_
  refine v_aload_n aL_law_543 rfl ?_
  refine v_iload_n aL_law_544 rfl ?_
  refine v_iconst aL_law_545 ?_
  refine v_iadd aL_law_546 ?_
  refine v_sld aL_law_547 (by omega) (by omega) ?_
  refine v_aload_n aL_law_548 rfl ?_
  refine v_iload_n aL_law_549 rfl ?_
  refine v_iconst aL_law_550 ?_
  refine v_iadd aL_law_551 ?_
  refine v_sld aL_law_552 (by omega) (by omega) ?_
  refine v_cVe (c_X7_span hX hl hok (by omega) SC_r SC_r) aL_law_553 mX7_span vX7_span lL_81 hX.p rfl rfl rfl rfl rfl (Nat.le_of_ble_eq_true rfl) hkk (Nat.le_of_ble_eq_true rfl) (fun z1 μ1 ⟨e1, h1, o1⟩ => ?_)
  have hmo := hs.mo o1
  refine v_aload_n aL_law_556 rfl ?_
  refine v_aload_n aL_law_557 rfl ?_
  refine v_iload_n aL_law_558 rfl ?_
  refine v_iconst aL_law_559 ?_
  refine v_iadd aL_law_560 ?_
  refine v_sld aL_law_561 (by omega) (by omega) ?_
  refine v_aload_n aL_law_562 rfl ?_
  refine v_iload_n aL_law_563 rfl ?_
  refine v_iconst aL_law_564 ?_
  refine v_iadd aL_law_565 ?_
  refine v_sld aL_law_566 (by omega) (by omega) ?_
  refine v_cVe (c_X8_span hM hmo hok (by omega) SC_r SC_r) aL_law_567 mX8_span vX8_span lL_84 hM.p rfl rfl rfl rfl rfl (Nat.le_of_ble_eq_true rfl) hkk (Nat.le_of_ble_eq_true rfl) (fun z2 μ2 ⟨e2, h2, o2⟩ => ?_)
  obtain rfl := SpanQ_un e1 e2
  refine v_icmp_eqS 756 rfl aL_law_570 ?_
  exact hh _ _ _ _ _ _ _ _ (hs.upd o1 o2 h1 h2 (hok.mono (by omega)) (hp)) hk
set_option maxHeartbeats 4000000 in
set_option maxRecDepth 100000 in
theorem lw_575 (hs : Sim S μ xa im pl t g n B) (hk : KB k im pl) (hB : 0 ≤ B ∧ B ≤ 50000) (hi : 0 ≤ i ∧ i + 4 ≤ (G.2.2.2.2.2.1 : Int)) (hL : G.2.2.2.2.2.1 ≤ 2048) (hh : ∀ (k' : Nat × Nat) (S' : Sh) (μ' : Mu) (im' pl' : Nat → Option Nat) (t' : BSt) (g' : Int → Int) (n' : Int), Sim S' μ' xa im' pl' t' g' n' (B + 42) → KB k' im' pl' → V l G code (x, 4, ret, 1300, 600000, 7302250) P k' S' μ' 756 [.ref G.2.2.2.2.1, .ref xa, .ref (xa + 33), vi i] []) : V l G code (x, 4, ret, 1300, 600000, 7302250) P k S μ 575 [.ref G.2.2.2.2.1, .ref xa, .ref (xa + 33), vi i] [] := by
  have hX := hs.1.1
  have hM := hs.1.2.1
  have hl := hs.2.1
  have hm := hs.2.2.1
  have hok := hs.2.2.2.1
  have hp := hs.2.2.2.2.1
  have hkk : k.1 ≤ 600000 ∧ k.2 ≤ 7302250 := by unfold KB at hk; omega
  refine v_aload_n aL_law_575 rfl ?_
  refine v_aload_n aL_law_576 rfl ?_
  refine v_iload_n aL_law_577 rfl ?_
  refine v_iconst aL_law_578 ?_
  refine v_iadd aL_law_579 ?_
  refine v_sld aL_law_580 (by omega) (by omega) ?_
  refine v_cVe (c_X7_lies hX hl hok SC_r) aL_law_581 mX7_lies vX7_lies lL_85 hX.p rfl rfl rfl rfl rfl (Nat.le_of_ble_eq_true rfl) hkk (Nat.le_of_ble_eq_true rfl) (fun z1 μ1 ⟨e1, h1, o1⟩ => ?_)
  have hmo := hs.mo o1
  refine v_aload_n aL_law_584 rfl ?_
  refine v_aload_n aL_law_585 rfl ?_
  refine v_iload_n aL_law_586 rfl ?_
  refine v_iconst aL_law_587 ?_
  refine v_iadd aL_law_588 ?_
  refine v_sld aL_law_589 (by omega) (by omega) ?_
  refine v_cVe (c_X8_lies hM hmo hok SC_r) aL_law_590 mX8_lies vX8_lies lL_88 hM.p rfl rfl rfl rfl rfl (Nat.le_of_ble_eq_true rfl) hkk (Nat.le_of_ble_eq_true rfl) (fun z2 μ2 ⟨e2, h2, o2⟩ => ?_)
  subst e1
  subst e2
  refine v_icmp_eqS 756 rfl aL_law_593 ?_
  exact hh _ _ _ _ _ _ _ _ (hs.upd o1 o2 h1 h2 (hok.mono (by omega)) (hp)) hk
set_option maxHeartbeats 4000000 in
set_option maxRecDepth 100000 in
theorem lw_598 (hs : Sim S μ xa im pl t g n B) (hk : KB k im pl) (hB : 0 ≤ B ∧ B ≤ 50000) (hi : 0 ≤ i ∧ i + 4 ≤ (G.2.2.2.2.2.1 : Int)) (hL : G.2.2.2.2.2.1 ≤ 2048) (hh : ∀ (k' : Nat × Nat) (S' : Sh) (μ' : Mu) (im' pl' : Nat → Option Nat) (t' : BSt) (g' : Int → Int) (n' : Int), Sim S' μ' xa im' pl' t' g' n' (B + 42) → KB k' im' pl' → V l G code (x, 4, ret, 1300, 600000, 7302250) P k' S' μ' 756 [.ref G.2.2.2.2.1, .ref xa, .ref (xa + 33), vi i] []) : V l G code (x, 4, ret, 1300, 600000, 7302250) P k S μ 598 [.ref G.2.2.2.2.1, .ref xa, .ref (xa + 33), vi i] [] := by
  have hX := hs.1.1
  have hM := hs.1.2.1
  have hl := hs.2.1
  have hm := hs.2.2.1
  have hok := hs.2.2.2.1
  have hp := hs.2.2.2.2.1
  have hkk : k.1 ≤ 600000 ∧ k.2 ≤ 7302250 := by unfold KB at hk; omega
  refine v_aload_n aL_law_598 rfl ?_
  refine v_aload_n aL_law_599 rfl ?_
  refine v_iload_n aL_law_600 rfl ?_
  refine v_iconst aL_law_601 ?_
  refine v_iadd aL_law_602 ?_
  refine v_sld aL_law_603 (by omega) (by omega) ?_
  refine v_aload_n aL_law_604 rfl ?_
  refine v_iload_n aL_law_605 rfl ?_
  refine v_iconst aL_law_606 ?_
  refine v_iadd aL_law_607 ?_
  refine v_sld aL_law_608 (by omega) (by omega) ?_
  refine v_cVe (c_X7_weight hX hl SC_r SC_r hok.1) aL_law_609 mX7_weight vX7_weight lL_89 hX.p rfl rfl rfl rfl rfl (Nat.le_of_ble_eq_true rfl) hkk (Nat.le_of_ble_eq_true rfl) (fun z1 μ1 ⟨e1, h1, o1⟩ => ?_)
  have hmo := hs.mo o1
  refine v_aload_n aL_law_612 rfl ?_
  refine v_aload_n aL_law_613 rfl ?_
  refine v_iload_n aL_law_614 rfl ?_
  refine v_iconst aL_law_615 ?_
  refine v_iadd aL_law_616 ?_
  refine v_sld aL_law_617 (by omega) (by omega) ?_
  refine v_aload_n aL_law_618 rfl ?_
  refine v_iload_n aL_law_619 rfl ?_
  refine v_iconst aL_law_620 ?_
  refine v_iadd aL_law_621 ?_
  refine v_sld aL_law_622 (by omega) (by omega) ?_
  refine v_cVe (c_X8_weight hM hmo SC_r SC_r hok.1) aL_law_623 mX8_weight vX8_weight lL_92 hM.p rfl rfl rfl rfl rfl (Nat.le_of_ble_eq_true rfl) hkk (Nat.le_of_ble_eq_true rfl) (fun z2 μ2 ⟨e2, h2, o2⟩ => ?_)
  subst e1
  subst e2
  refine v_icmp_eqS 756 rfl aL_law_626 ?_
  exact hh _ _ _ _ _ _ _ _ (hs.upd o1 o2 h1 h2 (hok.weight.mono (by omega)) (hp)) hk
set_option maxHeartbeats 4000000 in
set_option maxRecDepth 100000 in
theorem lw_631 (hs : Sim S μ xa im pl t g n B) (hk : KB k im pl) (hB : 0 ≤ B ∧ B ≤ 50000) (hi : 0 ≤ i ∧ i + 4 ≤ (G.2.2.2.2.2.1 : Int)) (hL : G.2.2.2.2.2.1 ≤ 2048) (hh : ∀ (k' : Nat × Nat) (S' : Sh) (μ' : Mu) (im' pl' : Nat → Option Nat) (t' : BSt) (g' : Int → Int) (n' : Int), Sim S' μ' xa im' pl' t' g' n' (B + 42) → KB k' im' pl' → V l G code (x, 4, ret, 1300, 600000, 7302250) P k' S' μ' 756 [.ref G.2.2.2.2.1, .ref xa, .ref (xa + 33), vi i] []) : V l G code (x, 4, ret, 1300, 600000, 7302250) P k S μ 631 [.ref G.2.2.2.2.1, .ref xa, .ref (xa + 33), vi i] [] := by
  have hX := hs.1.1
  have hM := hs.1.2.1
  have hl := hs.2.1
  have hm := hs.2.2.1
  have hok := hs.2.2.2.1
  have hp := hs.2.2.2.2.1
  have hkk : k.1 ≤ 600000 ∧ k.2 ≤ 7302250 := by unfold KB at hk; omega
  refine v_aload_n aL_law_631 rfl ?_
  refine v_aload_n aL_law_632 rfl ?_
  refine v_iload_n aL_law_633 rfl ?_
  refine v_iconst aL_law_634 ?_
  refine v_iadd aL_law_635 ?_
  refine v_sld aL_law_636 (by omega) (by omega) ?_
  refine v_cVe (c_X7_leaves hX hl hok SC_r) aL_law_637 mX7_leaves vX7_leaves lL_93 hX.p rfl rfl rfl rfl rfl (Nat.le_of_ble_eq_true rfl) hkk (Nat.le_of_ble_eq_true rfl) (fun z1 μ1 ⟨e1, h1, o1⟩ => ?_)
  have hmo := hs.mo o1
  refine v_aload_n aL_law_640 rfl ?_
  refine v_aload_n aL_law_641 rfl ?_
  refine v_iload_n aL_law_642 rfl ?_
  refine v_iconst aL_law_643 ?_
  refine v_iadd aL_law_644 ?_
  refine v_sld aL_law_645 (by omega) (by omega) ?_
  refine v_cVe (c_X8_leaves hM hmo hok SC_r) aL_law_646 mX8_leaves vX8_leaves lL_96 hM.p rfl rfl rfl rfl rfl (Nat.le_of_ble_eq_true rfl) hkk (Nat.le_of_ble_eq_true rfl) (fun z2 μ2 ⟨e2, h2, o2⟩ => ?_)
  subst e1
  subst e2
  refine v_icmp_eqS 756 rfl aL_law_649 ?_
  exact hh _ _ _ _ _ _ _ _ (hs.upd o1 o2 h1 h2 (hok.mono (by omega)) (hp)) hk
set_option maxHeartbeats 4000000 in
set_option maxRecDepth 100000 in
theorem lw_654 (hs : Sim S μ xa im pl t g n B) (hk : KB k im pl) (hB : 0 ≤ B ∧ B ≤ 50000) (hi : 0 ≤ i ∧ i + 4 ≤ (G.2.2.2.2.2.1 : Int)) (hL : G.2.2.2.2.2.1 ≤ 2048) (hh : ∀ (k' : Nat × Nat) (S' : Sh) (μ' : Mu) (im' pl' : Nat → Option Nat) (t' : BSt) (g' : Int → Int) (n' : Int), Sim S' μ' xa im' pl' t' g' n' (B + 42) → KB k' im' pl' → V l G code (x, 4, ret, 1300, 600000, 7302250) P k' S' μ' 756 [.ref G.2.2.2.2.1, .ref xa, .ref (xa + 33), vi i] []) : V l G code (x, 4, ret, 1300, 600000, 7302250) P k S μ 654 [.ref G.2.2.2.2.1, .ref xa, .ref (xa + 33), vi i] [] := by
  have hX := hs.1.1
  have hM := hs.1.2.1
  have hl := hs.2.1
  have hm := hs.2.2.1
  have hok := hs.2.2.2.1
  have hp := hs.2.2.2.2.1
  have hkk : k.1 ≤ 600000 ∧ k.2 ≤ 7302250 := by unfold KB at hk; omega
  refine v_aload_n aL_law_654 rfl ?_
  refine v_aload_n aL_law_655 rfl ?_
  refine v_iload_n aL_law_656 rfl ?_
  refine v_iconst aL_law_657 ?_
  refine v_iadd aL_law_658 ?_
  refine v_sld aL_law_659 (by omega) (by omega) ?_
  refine v_aload_n aL_law_660 rfl ?_
  refine v_iload_n aL_law_661 rfl ?_
  refine v_iconst aL_law_662 ?_
  refine v_iadd aL_law_663 ?_
  refine v_sld aL_law_664 (by omega) (by omega) ?_
  refine v_cVe (c_X7_lineBy hX hl hok SC_r SC_r) aL_law_665 mX7_lineBy vX7_lineBy lL_97 hX.p rfl rfl rfl rfl rfl (Nat.le_of_ble_eq_true rfl) hkk (Nat.le_of_ble_eq_true rfl) (fun z1 μ1 ⟨e1, h1, o1⟩ => ?_)
  have hmo := hs.mo o1
  refine v_aload_n aL_law_668 rfl ?_
  refine v_aload_n aL_law_669 rfl ?_
  refine v_iload_n aL_law_670 rfl ?_
  refine v_iconst aL_law_671 ?_
  refine v_iadd aL_law_672 ?_
  refine v_sld aL_law_673 (by omega) (by omega) ?_
  refine v_aload_n aL_law_674 rfl ?_
  refine v_iload_n aL_law_675 rfl ?_
  refine v_iconst aL_law_676 ?_
  refine v_iadd aL_law_677 ?_
  refine v_sld aL_law_678 (by omega) (by omega) ?_
  refine v_cVe (c_X8_lineBy hM hmo hok SC_r SC_r) aL_law_679 mX8_lineBy vX8_lineBy lL_100 hM.p rfl rfl rfl rfl rfl (Nat.le_of_ble_eq_true rfl) hkk (Nat.le_of_ble_eq_true rfl) (fun z2 μ2 ⟨e2, h2, o2⟩ => ?_)
  subst e1
  subst e2
  refine v_icmp_eqS 756 rfl aL_law_682 ?_
  exact hh _ _ _ _ _ _ _ _ (hs.upd o1 o2 h1 h2 (hok.mono (by omega)) (hp)) hk
set_option maxHeartbeats 4000000 in
set_option maxRecDepth 100000 in
theorem lw_733 (hs : Sim S μ xa im pl t g n B) (hk : KB k im pl) (hB : 0 ≤ B ∧ B ≤ 50000) (hi : 0 ≤ i ∧ i + 4 ≤ (G.2.2.2.2.2.1 : Int)) (hL : G.2.2.2.2.2.1 ≤ 2048) (hh : ∀ (k' : Nat × Nat) (S' : Sh) (μ' : Mu) (im' pl' : Nat → Option Nat) (t' : BSt) (g' : Int → Int) (n' : Int), Sim S' μ' xa im' pl' t' g' n' (B + 42) → KB k' im' pl' → V l G code (x, 4, ret, 1300, 600000, 7302250) P k' S' μ' 756 [.ref G.2.2.2.2.1, .ref xa, .ref (xa + 33), vi i] []) : V l G code (x, 4, ret, 1300, 600000, 7302250) P k S μ 733 [.ref G.2.2.2.2.1, .ref xa, .ref (xa + 33), vi i] [] := by
  have hX := hs.1.1
  have hM := hs.1.2.1
  have hl := hs.2.1
  have hm := hs.2.2.1
  have hok := hs.2.2.2.1
  have hp := hs.2.2.2.2.1
  have hkk : k.1 ≤ 600000 ∧ k.2 ≤ 7302250 := by unfold KB at hk; omega
  refine v_aload_n aL_law_733 rfl ?_
  refine v_aload_n aL_law_734 rfl ?_
  refine v_iload_n aL_law_735 rfl ?_
  refine v_iconst aL_law_736 ?_
  refine v_iadd aL_law_737 ?_
  refine v_sld aL_law_738 (by omega) (by omega) ?_
  refine v_cVe (c_X7_told hX hl SC_r hok.1) aL_law_739 mX7_told vX7_told lL_109 hX.p rfl rfl rfl rfl rfl (Nat.le_of_ble_eq_true rfl) hkk (Nat.le_of_ble_eq_true rfl) (fun z1 μ1 ⟨e1, h1, o1⟩ => ?_)
  have hmo := hs.mo o1
  refine v_aload_n aL_law_742 rfl ?_
  refine v_aload_n aL_law_743 rfl ?_
  refine v_iload_n aL_law_744 rfl ?_
  refine v_iconst aL_law_745 ?_
  refine v_iadd aL_law_746 ?_
  refine v_sld aL_law_747 (by omega) (by omega) ?_
  refine v_cVe (c_X8_told hM hmo SC_r hok.1) aL_law_748 mX8_told vX8_told lL_112 hM.p rfl rfl rfl rfl rfl (Nat.le_of_ble_eq_true rfl) hkk (Nat.le_of_ble_eq_true rfl) (fun z2 μ2 ⟨e2, h2, o2⟩ => ?_)
  subst e1
  subst e2
  refine v_icmp_eqS 756 rfl aL_law_751 ?_
  exact hh _ _ _ _ _ _ _ _ (hs.upd o1 o2 h1 h2 (hok.mono (by omega)) (hp)) hk
end LAW
