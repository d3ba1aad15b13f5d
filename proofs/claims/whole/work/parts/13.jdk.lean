/-! the methods of the JDK that are called (bitCount elsewhere) -/
section JDK
variable {l : Launch} {G : Glb} {S : Sh} {μ : Mu}
def cmp3 (a b : Int) : Int := if a < b then -1 else if a = b then 0 else 1
set_option maxHeartbeats 4000000 in
set_option maxRecDepth 100000 in
theorem c_J6_compare_7cf53 {a b : Int} (ha : -2147483648 ≤ a ∧ a < 2147483648) (hb : -2147483648 ≤ b ∧ b < 2147483648) : Ct l G cJ6_compare_7cf53 (yJ6_compare_7cf53, 2, (some FieldType.int), 0, 0, 0) [vi a, vi b] S μ (Ri S (cmp3 a b) μ) := by
  refine Ct.of (by decide) rfl (by simp [vi, Value.category]) (Nat.le_of_ble_eq_true rfl) ?_
  refine v_iload_n aJ6_compare_7cf53_0 rfl ?_
  refine v_iload_n aJ6_compare_7cf53_1 rfl ?_
  refine v_icmp_ge 9 rfl aJ6_compare_7cf53_2 (by omega) (by omega) (fun c2 => ?_) (fun c2 => ?_)
  · --
    refine v_iload_n aJ6_compare_7cf53_9 rfl ?_
    refine v_iload_n aJ6_compare_7cf53_10 rfl ?_
    refine v_icmp_ne 18 rfl aJ6_compare_7cf53_11 (by omega) (by omega) (fun c11 => ?_) (fun c11 => ?_)
    · --
      refine v_iconst aJ6_compare_7cf53_18 ?_
      refine v_ireturn aJ6_compare_7cf53_19 rfl ⟨Nat.le_refl _, Nat.le_refl _⟩ ?_
      exact ⟨congrArg (fun z => some (vi z)) (by unfold cmp3; split <;> (try split) <;> omega), rfl, rfl⟩
    · --
      refine v_iconst aJ6_compare_7cf53_14 ?_
      refine v_goto 19 rfl aJ6_compare_7cf53_15 ?_
      refine v_ireturn aJ6_compare_7cf53_19 rfl ⟨Nat.le_refl _, Nat.le_refl _⟩ ?_
      exact ⟨congrArg (fun z => some (vi z)) (by unfold cmp3; split <;> (try split) <;> omega), rfl, rfl⟩
  · --
    refine v_iconst aJ6_compare_7cf53_5 ?_
    refine v_goto 19 rfl aJ6_compare_7cf53_6 ?_
    refine v_ireturn aJ6_compare_7cf53_19 rfl ⟨Nat.le_refl _, Nat.le_refl _⟩ ?_
    exact ⟨congrArg (fun z => some (vi z)) (by unfold cmp3; split <;> (try split) <;> omega), rfl, rfl⟩
variable {cc : ByteArray} {F : Frm} {P : Pst} {k : Nat × Nat} {pc n idx : Nat} {L st : List Value}
theorem wc_min : Cond.code Lib.Math.min.name Lib.Math.min.code 2 (some .int) ∈ TBL := mJ9_min_7cf53.1
theorem ws_min : Cond.static Lib.Math.min.name ∈ TBL := sJ9_min_7cf53
theorem wi_min : Cond.initialized "java/lang/Math" ∈ TBL := mJ9_min_7cf53.2.1
theorem v_min {a b : Int} (ha : -2147483648 ≤ a ∧ a < 2147483648) (hb : -2147483648 ≤ b ∧ b < 2147483648) (hL : Cond.methodLink F.1.cls idx Lib.Math.min.name ∈ TBL) (hd : At cc pc (.invokestatic idx) 3 n) (hfr : 1 ≤ F.2.2.2.1) (hk : k.1 ≤ F.2.2.2.2.1 ∧ k.2 ≤ F.2.2.2.2.2) (hrs : (st.map fun v => v.category).sum ≤ 8) (h : V l G cc F P k S μ n L (vi (min a b) :: st)) : V l G cc F P k S μ pc L (vi b :: vi a :: st) := by
  obtain ⟨hd, rfl⟩ := hd
  intro p e s m args below meth c H locs ls X R hf hlc hl
  obtain ⟨hx, hb2, hml, -, hown, -, -, hts, hK, hZ, -⟩ := id X
  refine va_mmin hx hb2 (hml.trans hl.1.1.symm) hown (hts _ hL) (hts _ ws_min) (hts _ wi_min) (hts _ wc_min) hfr (by show _ + 13 ≤ 60 * F.2.2.2.1; omega) hk.1 hk.2 hd ?_
  have e2 : (if Int32.ofInt b < Int32.ofInt a then Int32.ofInt b else Int32.ofInt a : Int32) = Int32.ofInt (min a b) := by
    by_cases q : b < a
    · rw [if_pos ((i32_lt hb ha).mpr q)]
      exact congrArg Int32.ofInt (by omega)
    · rw [if_neg (fun z => q ((i32_lt hb ha).mp z))]
      exact congrArg Int32.ofInt (by omega)
  rw [e2]
  exact h p e s m args below meth c H locs ls X R hf hlc hl
theorem wc_max : Cond.code Lib.Math.max.name Lib.Math.max.code 2 (some .int) ∈ TBL := mJ9_max_7cf53.1
theorem ws_max : Cond.static Lib.Math.max.name ∈ TBL := sJ9_max_7cf53
theorem wi_max : Cond.initialized "java/lang/Math" ∈ TBL := mJ9_max_7cf53.2.1
theorem v_max {a b : Int} (ha : -2147483648 ≤ a ∧ a < 2147483648) (hb : -2147483648 ≤ b ∧ b < 2147483648) (hL : Cond.methodLink F.1.cls idx Lib.Math.max.name ∈ TBL) (hd : At cc pc (.invokestatic idx) 3 n) (hfr : 1 ≤ F.2.2.2.1) (hk : k.1 ≤ F.2.2.2.2.1 ∧ k.2 ≤ F.2.2.2.2.2) (hrs : (st.map fun v => v.category).sum ≤ 8) (h : V l G cc F P k S μ n L (vi (max a b) :: st)) : V l G cc F P k S μ pc L (vi b :: vi a :: st) := by
  obtain ⟨hd, rfl⟩ := hd
  intro p e s m args below meth c H locs ls X R hf hlc hl
  obtain ⟨hx, hb2, hml, -, hown, -, -, hts, hK, hZ, -⟩ := id X
  refine va_mmax hx hb2 (hml.trans hl.1.1.symm) hown (hts _ hL) (hts _ ws_max) (hts _ wi_max) (hts _ wc_max) hfr (by show _ + 13 ≤ 60 * F.2.2.2.1; omega) hk.1 hk.2 hd ?_
  have e2 : (if Int32.ofInt a < Int32.ofInt b then Int32.ofInt b else Int32.ofInt a : Int32) = Int32.ofInt (max a b) := by
    by_cases q : a < b
    · rw [if_pos ((i32_lt ha hb).mpr q)]
      exact congrArg Int32.ofInt (by omega)
    · rw [if_neg (fun z => q ((i32_lt ha hb).mp z))]
      exact congrArg Int32.ofInt (by omega)
  rw [e2]
  exact h p e s m args below meth c H locs ls X R hf hlc hl
end JDK
theorem lmX7_134 : Cond.methodLink RX7 134 Lib.Math.min.name ∈ TBL := tb_w 472 (by decide +kernel) (by decide +kernel)
theorem lmX7_139 : Cond.methodLink RX7 139 Lib.Math.max.name ∈ TBL := tb_w 475 (by decide +kernel) (by decide +kernel)
theorem lmX3_9 : Cond.methodLink RX3 9 Lib.Math.min.name ∈ TBL := tb_w 491 (by decide +kernel) (by decide +kernel)
theorem lmX3_15 : Cond.methodLink RX3 15 Lib.Math.max.name ∈ TBL := tb_w 492 (by decide +kernel) (by decide +kernel)
