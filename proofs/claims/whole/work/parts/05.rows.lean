def iAnd (a b : Int) : Int := (Int32.ofInt a &&& Int32.ofInt b).toInt
def iOr (a b : Int) : Int := (Int32.ofInt a ||| Int32.ofInt b).toInt
def iXor (a b : Int) : Int := (Int32.ofInt a ^^^ Int32.ofInt b).toInt
def iShl (a b : Int) : Int := (Int32.ofInt a <<< (Int32.ofInt b &&& 31)).toInt
def iShr (a b : Int) : Int := (Int32.ofInt a >>> (Int32.ofInt b &&& 31)).toInt
def iUshr (a b : Int) : Int := ((Int32.ofInt a).toUInt32 >>> ((Int32.ofInt b).toUInt32 &&& Int32.toUInt32 31)).toInt32.toInt
theorem i32_in {z : Int} (h : -2147483648 ≤ z ∧ z < 2147483648) : (Int32.ofInt z).toInt = z := Int32.toInt_ofInt_of_le (by have := h.1; omega) (by have := h.2; omega)
section R1
variable {l : Launch} {G : Glb} {cc : ByteArray} {F : Frm} {P : Pst} {k : Nat × Nat} {S : Sh} {μ : Mu} {pc n : Nat} {L st : List Value}
theorem v_iadd {a b : Int} (hd : At cc pc .iadd 1 n) (h : V l G cc F P k S μ n L (vi (a + b) :: st)) : V l G cc F P k S μ pc L (vi b :: vi a :: st) := by
  obtain ⟨hd, rfl⟩ := hd
  intro p e s m args below meth c H locs ls X R hf hlc hl
  refine lv_iadd X.1 X.2.1 hd ?_
  rw [← Int32.ofInt_add]
  exact h p e s m args below meth c H locs ls X R hf hlc hl
theorem v_isub {a b : Int} (hd : At cc pc .isub 1 n) (h : V l G cc F P k S μ n L (vi (a - b) :: st)) : V l G cc F P k S μ pc L (vi b :: vi a :: st) := by
  obtain ⟨hd, rfl⟩ := hd
  intro p e s m args below meth c H locs ls X R hf hlc hl
  refine lv_isub X.1 X.2.1 hd ?_
  rw [← Int32.ofInt_sub]
  exact h p e s m args below meth c H locs ls X R hf hlc hl
theorem v_imul {a b : Int} (hd : At cc pc .imul 1 n) (h : V l G cc F P k S μ n L (vi (a * b) :: st)) : V l G cc F P k S μ pc L (vi b :: vi a :: st) := by
  obtain ⟨hd, rfl⟩ := hd
  intro p e s m args below meth c H locs ls X R hf hlc hl
  refine lv_imul X.1 X.2.1 hd ?_
  rw [← Int32.ofInt_mul]
  exact h p e s m args below meth c H locs ls X R hf hlc hl
theorem v_iand {a b : Int} (hd : At cc pc .iand 1 n) (h : V l G cc F P k S μ n L (vi (iAnd a b) :: st)) : V l G cc F P k S μ pc L (vi b :: vi a :: st) := by
  obtain ⟨hd, rfl⟩ := hd
  intro p e s m args below meth c H locs ls X R hf hlc hl
  refine lv_iand X.1 X.2.1 hd ?_
  have h := h p e s m args below meth c H locs ls X R hf hlc hl
  unfold iAnd vi at h
  rw [Int32.ofInt_toInt] at h
  exact h
theorem v_ior {a b : Int} (hd : At cc pc .ior 1 n) (h : V l G cc F P k S μ n L (vi (iOr a b) :: st)) : V l G cc F P k S μ pc L (vi b :: vi a :: st) := by
  obtain ⟨hd, rfl⟩ := hd
  intro p e s m args below meth c H locs ls X R hf hlc hl
  refine lv_ior X.1 X.2.1 hd ?_
  have h := h p e s m args below meth c H locs ls X R hf hlc hl
  unfold iOr vi at h
  rw [Int32.ofInt_toInt] at h
  exact h
theorem v_ixor {a b : Int} (hd : At cc pc .ixor 1 n) (h : V l G cc F P k S μ n L (vi (iXor a b) :: st)) : V l G cc F P k S μ pc L (vi b :: vi a :: st) := by
  obtain ⟨hd, rfl⟩ := hd
  intro p e s m args below meth c H locs ls X R hf hlc hl
  refine lv_ixor X.1 X.2.1 hd ?_
  have h := h p e s m args below meth c H locs ls X R hf hlc hl
  unfold iXor vi at h
  rw [Int32.ofInt_toInt] at h
  exact h
theorem v_ishl {a b : Int} (hd : At cc pc .ishl 1 n) (h : V l G cc F P k S μ n L (vi (iShl a b) :: st)) : V l G cc F P k S μ pc L (vi b :: vi a :: st) := by
  obtain ⟨hd, rfl⟩ := hd
  intro p e s m args below meth c H locs ls X R hf hlc hl
  refine lv_ishl X.1 X.2.1 hd ?_
  have h := h p e s m args below meth c H locs ls X R hf hlc hl
  unfold iShl vi at h
  rw [Int32.ofInt_toInt] at h
  exact h
theorem v_ishr {a b : Int} (hd : At cc pc .ishr 1 n) (h : V l G cc F P k S μ n L (vi (iShr a b) :: st)) : V l G cc F P k S μ pc L (vi b :: vi a :: st) := by
  obtain ⟨hd, rfl⟩ := hd
  intro p e s m args below meth c H locs ls X R hf hlc hl
  refine lv_ishr X.1 X.2.1 hd ?_
  have h := h p e s m args below meth c H locs ls X R hf hlc hl
  unfold iShr vi at h
  rw [Int32.ofInt_toInt] at h
  exact h
theorem v_iushr {a b : Int} (hd : At cc pc .iushr 1 n) (h : V l G cc F P k S μ n L (vi (iUshr a b) :: st)) : V l G cc F P k S μ pc L (vi b :: vi a :: st) := by
  obtain ⟨hd, rfl⟩ := hd
  intro p e s m args below meth c H locs ls X R hf hlc hl
  refine lv_iushr X.1 X.2.1 hd rfl ?_
  have h := h p e s m args below meth c H locs ls X R hf hlc hl
  unfold iUshr vi at h
  rw [Int32.ofInt_toInt] at h
  exact h
theorem tdiv_nn {a b : Int} (ha : 0 ≤ a) (hb : 0 < b) : a.tdiv b = a / b := Int.tdiv_eq_ediv_of_nonneg ha
theorem i32_div {a b : Int} (ha : 0 ≤ a ∧ a < 2147483648) (hb : 0 < b ∧ b < 2147483648) : Int32.ofInt a / Int32.ofInt b = Int32.ofInt (a / b) := by
  rw [← tdiv_nn ha.1 hb.1]
  refine (Int32.ofInt_tdiv ?_ ?_ ?_ ?_).symm <;> simp [Int32.minValue, Int32.maxValue] <;> omega
theorem i32_nz {b : Int} (hb : 0 < b ∧ b < 2147483648) : ¬ Int32.ofInt b = 0 := fun h => by
  have h1 : (Int32.ofInt b).toInt = (0 : Int32).toInt := congrArg Int32.toInt h
  rw [i32_in (by omega)] at h1
  simp at h1
  omega
theorem v_idiv {a b : Int} (ha : 0 ≤ a ∧ a < 2147483648) (hb : 0 < b ∧ b < 2147483648) (hd : At cc pc .idiv 1 n) (h : V l G cc F P k S μ n L (vi (a / b) :: st)) : V l G cc F P k S μ pc L (vi b :: vi a :: st) := by
  obtain ⟨hd, rfl⟩ := hd
  intro p e s m args below meth c H locs ls X R hf hlc hl
  refine lv_idiv X.1 X.2.1 hd (i32_nz hb) ?_
  rw [i32_div ha hb]
  exact h p e s m args below meth c H locs ls X R hf hlc hl
theorem v_irem {a b : Int} (ha : 0 ≤ a ∧ a < 2147483648) (hb : 0 < b ∧ b < 2147483648) (hd : At cc pc .irem 1 n) (h : V l G cc F P k S μ n L (vi (a % b) :: st)) : V l G cc F P k S μ pc L (vi b :: vi a :: st) := by
  obtain ⟨hd, rfl⟩ := hd
  intro p e s m args below meth c H locs ls X R hf hlc hl
  refine lv_irem X.1 X.2.1 hd (i32_nz hb) ?_
  rw [i32_div ha hb, ← Int32.ofInt_mul, ← Int32.ofInt_sub, show a - a / b * b = a % b by rw [Int.emod_def, Int.mul_comm]]
  exact h p e s m args below meth c H locs ls X R hf hlc hl
theorem v_idivT {a b : Int} (ha : -2147483648 ≤ a ∧ a < 2147483648) (hb : 0 < b ∧ b < 2147483648) (hd : At cc pc .idiv 1 n) (h : V l G cc F P k S μ n L (vi (a.tdiv b) :: st)) : V l G cc F P k S μ pc L (vi b :: vi a :: st) := by
  obtain ⟨hd, rfl⟩ := hd
  intro p e s m args below meth c H locs ls X R hf hlc hl
  refine lv_idiv X.1 X.2.1 hd (i32_nz hb) ?_
  have e9 : Int32.ofInt a / Int32.ofInt b = Int32.ofInt (a.tdiv b) := by
    refine (Int32.ofInt_tdiv ?_ ?_ ?_ ?_).symm <;> simp [Int32.minValue, Int32.maxValue] <;> omega
  rw [e9]
  exact h p e s m args below meth c H locs ls X R hf hlc hl
theorem v_iremT {a b : Int} (ha : -2147483648 ≤ a ∧ a < 2147483648) (hb : 0 < b ∧ b < 2147483648) (hd : At cc pc .irem 1 n) (h : V l G cc F P k S μ n L (vi (a.tmod b) :: st)) : V l G cc F P k S μ pc L (vi b :: vi a :: st) := by
  obtain ⟨hd, rfl⟩ := hd
  intro p e s m args below meth c H locs ls X R hf hlc hl
  refine lv_irem X.1 X.2.1 hd (i32_nz hb) ?_
  have e9 : Int32.ofInt a / Int32.ofInt b = Int32.ofInt (a.tdiv b) := by
    refine (Int32.ofInt_tdiv ?_ ?_ ?_ ?_).symm <;> simp [Int32.minValue, Int32.maxValue] <;> omega
  rw [e9, ← Int32.ofInt_mul, ← Int32.ofInt_sub, show a - a.tdiv b * b = a.tmod b by rw [Int.tmod_def, Int.mul_comm]]
  exact h p e s m args below meth c H locs ls X R hf hlc hl
theorem v_iconst {i : Int} (hd : At cc pc (.iconst i) 1 n) (h : V l G cc F P k S μ n L (vi i :: st)) : V l G cc F P k S μ pc L (st) := by
  obtain ⟨hd, rfl⟩ := hd
  intro p e s m args below meth c H locs ls X R hf hlc hl
  exact lv_iconst X.1 X.2.1 hd rfl (h p e s m args below meth c H locs ls X R hf hlc hl)
theorem v_bipush {i : Int} (hi : (Int8.ofInt i).toInt32 = Int32.ofInt i) (hd : At cc pc (.bipush i) 2 n) (h : V l G cc F P k S μ n L (vi i :: st)) : V l G cc F P k S μ pc L (st) := by
  obtain ⟨hd, rfl⟩ := hd
  intro p e s m args below meth c H locs ls X R hf hlc hl
  exact lv_bipush X.1 X.2.1 hd hi (h p e s m args below meth c H locs ls X R hf hlc hl)
theorem v_sipush {i : Int} (hi : (Int16.ofInt i).toInt32 = Int32.ofInt i) (hd : At cc pc (.sipush i) 3 n) (h : V l G cc F P k S μ n L (vi i :: st)) : V l G cc F P k S μ pc L (st) := by
  obtain ⟨hd, rfl⟩ := hd
  intro p e s m args below meth c H locs ls X R hf hlc hl
  exact lv_sipush X.1 X.2.1 hd hi (h p e s m args below meth c H locs ls X R hf hlc hl)
theorem v_ldc {i : Int} {j : Nat} (hw : Cond.constant F.1.cls j (Int32.ofInt i) ∈ TBL) (hd : At cc pc (.ldc j) 2 n) (h : V l G cc F P k S μ n L (vi i :: st)) : V l G cc F P k S μ pc L (st) := by
  obtain ⟨hd, rfl⟩ := hd
  intro p e s m args below meth c H locs ls X R hf hlc hl
  obtain ⟨hx, hb, -, -, hown, -, -, hts, -⟩ := id X
  exact lv_ldc hx hb hown (hts _ hw) hd (h p e s m args below meth c H locs ls X R hf hlc hl)
theorem v_ldcw {i : Int} {j : Nat} (hw : Cond.constant F.1.cls j (Int32.ofInt i) ∈ TBL) (hd : At cc pc (.ldc_w j) 3 n) (h : V l G cc F P k S μ n L (vi i :: st)) : V l G cc F P k S μ pc L (st) := by
  obtain ⟨hd, rfl⟩ := hd
  intro p e s m args below meth c H locs ls X R hf hlc hl
  obtain ⟨hx, hb, -, -, hown, -, -, hts, -⟩ := id X
  exact lv_ldcw hx hb hown (hts _ hw) hd (h p e s m args below meth c H locs ls X R hf hlc hl)
theorem v_iload_n {a : Int} {q : Fin 4} (hd : At cc pc (.iload_n q) 1 n) (hv : lget L q = some (vi a)) (h : V l G cc F P k S μ n L (vi a :: st)) : V l G cc F P k S μ pc L (st) := by
  obtain ⟨hd, rfl⟩ := hd
  intro p e s m args below meth c H locs ls X R hf hlc hl
  exact lv_iload_n X.1 X.2.1 hd rfl (hl.get hv) (h p e s m args below meth c H locs ls X R hf hlc hl)
theorem v_iload {a : Int} {q : Nat} (hd : At cc pc (.iload q) 2 n) (hv : lget L q = some (vi a)) (h : V l G cc F P k S μ n L (vi a :: st)) : V l G cc F P k S μ pc L (st) := by
  obtain ⟨hd, rfl⟩ := hd
  intro p e s m args below meth c H locs ls X R hf hlc hl
  exact lv_iload X.1 X.2.1 hd (hl.get hv) (h p e s m args below meth c H locs ls X R hf hlc hl)
theorem v_aload_n {a : Nat} {q : Fin 4} (hd : At cc pc (.aload_n q) 1 n) (hv : lget L q = some (.ref a)) (h : V l G cc F P k S μ n L (.ref a :: st)) : V l G cc F P k S μ pc L (st) := by
  obtain ⟨hd, rfl⟩ := hd
  intro p e s m args below meth c H locs ls X R hf hlc hl
  exact lv_aload_n X.1 X.2.1 hd rfl (hl.get hv) (h p e s m args below meth c H locs ls X R hf hlc hl)
theorem v_aload {a : Nat} {q : Nat} (hd : At cc pc (.aload q) 2 n) (hv : lget L q = some (.ref a)) (h : V l G cc F P k S μ n L (.ref a :: st)) : V l G cc F P k S μ pc L (st) := by
  obtain ⟨hd, rfl⟩ := hd
  intro p e s m args below meth c H locs ls X R hf hlc hl
  exact lv_aload X.1 X.2.1 hd (hl.get hv) (h p e s m args below meth c H locs ls X R hf hlc hl)
theorem v_istore_n {a : Int} {q : Fin 4} {L' : List Value} (hd : At cc pc (.istore_n q) 1 n) (hq : q < F.2.1) (hL : lset L q (vi a) = L') (h : V l G cc F P k S μ n L' (st)) : V l G cc F P k S μ pc L (vi a :: st) := by
  obtain ⟨hd, rfl⟩ := hd
  subst hL
  intro p e s m args below meth c H locs ls X R hf hlc hl
  refine lv_istore_n X.1 X.2.1 hd rfl hl.1 hq rfl (fun ls' hl' => ?_)
  exact h _ _ _ _ _ _ _ _ _ _ _ X R hf hlc (hl.set rfl hl')
theorem v_istore {a : Int} {q : Nat} {L' : List Value} (hd : At cc pc (.istore q) 2 n) (hq : q < F.2.1) (hL : lset L q (vi a) = L') (h : V l G cc F P k S μ n L' (st)) : V l G cc F P k S μ pc L (vi a :: st) := by
  obtain ⟨hd, rfl⟩ := hd
  subst hL
  intro p e s m args below meth c H locs ls X R hf hlc hl
  refine lv_istore X.1 X.2.1 hd hl.1 hq rfl (fun ls' hl' => ?_)
  exact h _ _ _ _ _ _ _ _ _ _ _ X R hf hlc (hl.set rfl hl')
theorem v_astore_n {a : Nat} {q : Fin 4} {L' : List Value} (hd : At cc pc (.astore_n q) 1 n) (hq : q < F.2.1) (hL : lset L q (.ref a) = L') (h : V l G cc F P k S μ n L' (st)) : V l G cc F P k S μ pc L (.ref a :: st) := by
  obtain ⟨hd, rfl⟩ := hd
  subst hL
  intro p e s m args below meth c H locs ls X R hf hlc hl
  refine lv_astore_n X.1 X.2.1 hd rfl hl.1 hq rfl (fun ls' hl' => ?_)
  exact h _ _ _ _ _ _ _ _ _ _ _ X R hf hlc (hl.set rfl hl')
theorem v_astore {a : Nat} {q : Nat} {L' : List Value} (hd : At cc pc (.astore q) 2 n) (hq : q < F.2.1) (hL : lset L q (.ref a) = L') (h : V l G cc F P k S μ n L' (st)) : V l G cc F P k S μ pc L (.ref a :: st) := by
  obtain ⟨hd, rfl⟩ := hd
  subst hL
  intro p e s m args below meth c H locs ls X R hf hlc hl
  refine lv_astore X.1 X.2.1 hd hl.1 hq rfl (fun ls' hl' => ?_)
  exact h _ _ _ _ _ _ _ _ _ _ _ X R hf hlc (hl.set rfl hl')
theorem v_iinc {a i : Int} {q : Nat} {L' : List Value} (hd : At cc pc (.iinc q i) 3 n) (hv : lget L q = some (vi a)) (hq : q < F.2.1) (hL : lset L q (vi (a + i)) = L') (h : V l G cc F P k S μ n L' (st)) : V l G cc F P k S μ pc L (st) := by
  obtain ⟨hd, rfl⟩ := hd
  subst hL
  intro p e s m args below meth c H locs ls X R hf hlc hl
  obtain ⟨k0, hk0⟩ := List.getElem?_of_mem (nu_get (j := 0) hv)
  rw [Nat.zero_add] at hk0
  refine lv_iinc (v := Int32.ofInt (a + i)) X.1 X.2.1 hd hl.1 hk0 (Int32.ofInt_add a i).symm hq rfl (fun ls' hl' => ?_)
  exact h _ _ _ _ _ _ _ _ _ _ _ X R hf hlc (hl.set rfl hl')
theorem v_locals {L' : List Value} (hL : ∀ q ∈ nu 0 L', q ∈ nu 0 L) (h : V l G cc F P k S μ pc L' (st)) : V l G cc F P k S μ pc L (st) := by
  intro p e s m args below meth c H locs ls X R hf hlc hl
  refine h _ _ _ _ _ _ _ _ _ _ _ X R hf hlc ⟨⟨hl.1.1, hl.1.2.1, fun q hq => hl.1.2.2 q (hL q hq)⟩, fun v hv => ?_⟩
  have : ∀ (A : List Value) (j : Nat), v ∈ A → ∃ i, (i, v) ∈ nu j A := by
    intro A
    induction A with
    | nil => intro j h; cases h
    | cons a t ih =>
      intro j h
      rcases List.mem_cons.mp h with rfl | h
      · exact ⟨j, List.mem_cons_self⟩
      · obtain ⟨i, hi⟩ := ih (j + 1) h
        exact ⟨i, List.mem_cons_of_mem _ hi⟩
  obtain ⟨i, hi⟩ := this L' 0 hv
  exact hl.2 v (nu_mem (hL _ hi))
theorem nu_take : ∀ (L : List Value) (i j : Nat) (q : Nat × Value), q ∈ nu j (L.take i) → q ∈ nu j L
  | [], i, j, q, h => by simp [nu] at h
  | a :: t, 0, j, q, h => by simp [nu] at h
  | a :: t, i + 1, j, q, h => by
    rcases List.mem_cons.mp (show q ∈ (j, a) :: nu (j + 1) (t.take i) from h) with rfl | h
    · exact List.mem_cons_self
    · exact List.mem_cons_of_mem _ (nu_take t i (j + 1) q h)
/-- only the first i locals -/
theorem v_take (i : Nat) {L' : List Value} (hL : L.take i = L') (h : V l G cc F P k S μ pc L' (st)) : V l G cc F P k S μ pc L (st) := v_locals (fun q hq => nu_take L i 0 q (by rw [hL]; exact hq)) h
theorem v_dup {v : Value} (hc : v.category = 1) (hd : At cc pc .dup 1 n) (h : V l G cc F P k S μ n L (v :: v :: st)) : V l G cc F P k S μ pc L (v :: st) := by
  obtain ⟨hd, rfl⟩ := hd
  intro p e s m args below meth c H locs ls X R hf hlc hl
  exact lv_dup X.1 X.2.1 hd hc (h p e s m args below meth c H locs ls X R hf hlc hl)
theorem v_dup2 {v w : Value} (hc : v.category = 1) (hc2 : w.category = 1) (hd : At cc pc .dup2 1 n) (h : V l G cc F P k S μ n L (v :: w :: v :: w :: st)) : V l G cc F P k S μ pc L (v :: w :: st) := by
  obtain ⟨hd, rfl⟩ := hd
  intro p e s m args below meth c H locs ls X R hf hlc hl
  exact lv_dup2_11 X.1 X.2.1 hd hc hc2 (h p e s m args below meth c H locs ls X R hf hlc hl)
theorem v_goto {off : Int} (t : Nat) (ht : (pc : Int) + off = (t : Int)) (hd : At cc pc (.goto off) 3 n) (h : V l G cc F P k S μ t L (st)) : V l G cc F P k S μ pc L (st) := by
  obtain ⟨hd, rfl⟩ := hd
  intro p e s m args below meth c H locs ls X R hf hlc hl
  exact lv_goto X.1 X.2.1 hd ht (h p e s m args below meth c H locs ls X R hf hlc hl)
theorem i32_lt {a b : Int} (ha : -2147483648 ≤ a ∧ a < 2147483648) (hb : -2147483648 ≤ b ∧ b < 2147483648) : Int32.ofInt a < Int32.ofInt b ↔ a < b := by rw [Int32.lt_iff_toInt_lt, i32_in ha, i32_in hb]
theorem i32_le {a b : Int} (ha : -2147483648 ≤ a ∧ a < 2147483648) (hb : -2147483648 ≤ b ∧ b < 2147483648) : Int32.ofInt a ≤ Int32.ofInt b ↔ a ≤ b := by rw [Int32.le_iff_toInt_le, i32_in ha, i32_in hb]
theorem i32_eq {a b : Int} (ha : -2147483648 ≤ a ∧ a < 2147483648) (hb : -2147483648 ≤ b ∧ b < 2147483648) : Int32.ofInt a = Int32.ofInt b ↔ a = b := by rw [← Int32.toInt_inj, i32_in ha, i32_in hb]
theorem i32_0 {a : Int} (ha : -2147483648 ≤ a ∧ a < 2147483648) : (Int32.ofInt a < 0 ↔ a < 0) ∧ (Int32.ofInt a ≤ 0 ↔ a ≤ 0) ∧ (Int32.ofInt a = 0 ↔ a = 0) ∧ (0 < Int32.ofInt a ↔ 0 < a) ∧ (0 ≤ Int32.ofInt a ↔ 0 ≤ a) :=
  ⟨i32_lt (b := 0) ha (by decide), i32_le (b := 0) ha (by decide), i32_eq (b := 0) ha (by decide), i32_lt (a := 0) (by decide) ha, i32_le (a := 0) (by decide) ha⟩
theorem v_icmp_lt {a b : Int} {off : Int} (t : Nat) (ht : (pc : Int) + off = (t : Int)) (hd : At cc pc (.if_icmp .lt off) 3 n) (ha : -2147483648 ≤ a ∧ a < 2147483648) (hb : -2147483648 ≤ b ∧ b < 2147483648) (kt : a < b → V l G cc F P k S μ t L (st)) (kf : ¬ a < b → V l G cc F P k S μ n L (st)) : V l G cc F P k S μ pc L (vi b :: vi a :: st) := by
  obtain ⟨hd, rfl⟩ := hd
  intro p e s m args below meth c H locs ls X R hf hlc hl
  exact lv_icmp_lt X.1 X.2.1 hd ht (fun q => (kt ((i32_lt ha hb).mp q)) _ _ _ _ _ _ _ _ _ _ _ X R hf hlc hl) (fun q => (kf (fun z => q ((i32_lt ha hb).mpr z))) _ _ _ _ _ _ _ _ _ _ _ X R hf hlc hl)
theorem v_icmp_ge {a b : Int} {off : Int} (t : Nat) (ht : (pc : Int) + off = (t : Int)) (hd : At cc pc (.if_icmp .ge off) 3 n) (ha : -2147483648 ≤ a ∧ a < 2147483648) (hb : -2147483648 ≤ b ∧ b < 2147483648) (kt : b ≤ a → V l G cc F P k S μ t L (st)) (kf : ¬ b ≤ a → V l G cc F P k S μ n L (st)) : V l G cc F P k S μ pc L (vi b :: vi a :: st) := by
  obtain ⟨hd, rfl⟩ := hd
  intro p e s m args below meth c H locs ls X R hf hlc hl
  exact lv_icmp_ge X.1 X.2.1 hd ht (fun q => (kt ((i32_le hb ha).mp q)) _ _ _ _ _ _ _ _ _ _ _ X R hf hlc hl) (fun q => (kf (fun z => q ((i32_le hb ha).mpr z))) _ _ _ _ _ _ _ _ _ _ _ X R hf hlc hl)
theorem v_icmp_gt {a b : Int} {off : Int} (t : Nat) (ht : (pc : Int) + off = (t : Int)) (hd : At cc pc (.if_icmp .gt off) 3 n) (ha : -2147483648 ≤ a ∧ a < 2147483648) (hb : -2147483648 ≤ b ∧ b < 2147483648) (kt : b < a → V l G cc F P k S μ t L (st)) (kf : ¬ b < a → V l G cc F P k S μ n L (st)) : V l G cc F P k S μ pc L (vi b :: vi a :: st) := by
  obtain ⟨hd, rfl⟩ := hd
  intro p e s m args below meth c H locs ls X R hf hlc hl
  exact lv_icmp_gt X.1 X.2.1 hd ht (fun q => (kt ((i32_lt hb ha).mp q)) _ _ _ _ _ _ _ _ _ _ _ X R hf hlc hl) (fun q => (kf (fun z => q ((i32_lt hb ha).mpr z))) _ _ _ _ _ _ _ _ _ _ _ X R hf hlc hl)
theorem v_icmp_le {a b : Int} {off : Int} (t : Nat) (ht : (pc : Int) + off = (t : Int)) (hd : At cc pc (.if_icmp .le off) 3 n) (ha : -2147483648 ≤ a ∧ a < 2147483648) (hb : -2147483648 ≤ b ∧ b < 2147483648) (kt : a ≤ b → V l G cc F P k S μ t L (st)) (kf : ¬ a ≤ b → V l G cc F P k S μ n L (st)) : V l G cc F P k S μ pc L (vi b :: vi a :: st) := by
  obtain ⟨hd, rfl⟩ := hd
  intro p e s m args below meth c H locs ls X R hf hlc hl
  exact lv_icmp_le X.1 X.2.1 hd ht (fun q => (kt ((i32_le ha hb).mp q)) _ _ _ _ _ _ _ _ _ _ _ X R hf hlc hl) (fun q => (kf (fun z => q ((i32_le ha hb).mpr z))) _ _ _ _ _ _ _ _ _ _ _ X R hf hlc hl)
theorem v_icmp_eq {a b : Int} {off : Int} (t : Nat) (ht : (pc : Int) + off = (t : Int)) (hd : At cc pc (.if_icmp .eq off) 3 n) (ha : -2147483648 ≤ a ∧ a < 2147483648) (hb : -2147483648 ≤ b ∧ b < 2147483648) (kt : a = b → V l G cc F P k S μ t L (st)) (kf : ¬ a = b → V l G cc F P k S μ n L (st)) : V l G cc F P k S μ pc L (vi b :: vi a :: st) := by
  obtain ⟨hd, rfl⟩ := hd
  intro p e s m args below meth c H locs ls X R hf hlc hl
  exact lv_icmp_eq X.1 X.2.1 hd ht (fun q => (kt ((i32_eq ha hb).mp q)) _ _ _ _ _ _ _ _ _ _ _ X R hf hlc hl) (fun q => (kf (fun z => q ((i32_eq ha hb).mpr z))) _ _ _ _ _ _ _ _ _ _ _ X R hf hlc hl)
theorem v_icmp_ne {a b : Int} {off : Int} (t : Nat) (ht : (pc : Int) + off = (t : Int)) (hd : At cc pc (.if_icmp .ne off) 3 n) (ha : -2147483648 ≤ a ∧ a < 2147483648) (hb : -2147483648 ≤ b ∧ b < 2147483648) (kt : ¬ a = b → V l G cc F P k S μ t L (st)) (kf : a = b → V l G cc F P k S μ n L (st)) : V l G cc F P k S μ pc L (vi b :: vi a :: st) := by
  obtain ⟨hd, rfl⟩ := hd
  intro p e s m args below meth c H locs ls X R hf hlc hl
  exact lv_icmp_ne X.1 X.2.1 hd ht (fun q => (kt (fun z => q ((i32_eq ha hb).mpr z))) _ _ _ _ _ _ _ _ _ _ _ X R hf hlc hl) (fun q => (kf ((i32_eq ha hb).mp q)) _ _ _ _ _ _ _ _ _ _ _ X R hf hlc hl)
theorem v_if_lt {a : Int} {off : Int} (t : Nat) (ht : (pc : Int) + off = (t : Int)) (hd : At cc pc (.ifCond .lt off) 3 n) (ha : -2147483648 ≤ a ∧ a < 2147483648) (kt : a < 0 → V l G cc F P k S μ t L (st)) (kf : ¬ a < 0 → V l G cc F P k S μ n L (st)) : V l G cc F P k S μ pc L (vi a :: st) := by
  obtain ⟨hd, rfl⟩ := hd
  intro p e s m args below meth c H locs ls X R hf hlc hl
  exact lv_if_lt X.1 X.2.1 hd ht (fun q => (kt (((i32_0 ha).1).mp q)) _ _ _ _ _ _ _ _ _ _ _ X R hf hlc hl) (fun q => (kf (fun z => q (((i32_0 ha).1).mpr z))) _ _ _ _ _ _ _ _ _ _ _ X R hf hlc hl)
theorem v_if_ge {a : Int} {off : Int} (t : Nat) (ht : (pc : Int) + off = (t : Int)) (hd : At cc pc (.ifCond .ge off) 3 n) (ha : -2147483648 ≤ a ∧ a < 2147483648) (kt : 0 ≤ a → V l G cc F P k S μ t L (st)) (kf : ¬ 0 ≤ a → V l G cc F P k S μ n L (st)) : V l G cc F P k S μ pc L (vi a :: st) := by
  obtain ⟨hd, rfl⟩ := hd
  intro p e s m args below meth c H locs ls X R hf hlc hl
  exact lv_if_ge X.1 X.2.1 hd ht (fun q => (kt (((i32_0 ha).2.2.2.2).mp q)) _ _ _ _ _ _ _ _ _ _ _ X R hf hlc hl) (fun q => (kf (fun z => q (((i32_0 ha).2.2.2.2).mpr z))) _ _ _ _ _ _ _ _ _ _ _ X R hf hlc hl)
theorem v_if_gt {a : Int} {off : Int} (t : Nat) (ht : (pc : Int) + off = (t : Int)) (hd : At cc pc (.ifCond .gt off) 3 n) (ha : -2147483648 ≤ a ∧ a < 2147483648) (kt : 0 < a → V l G cc F P k S μ t L (st)) (kf : ¬ 0 < a → V l G cc F P k S μ n L (st)) : V l G cc F P k S μ pc L (vi a :: st) := by
  obtain ⟨hd, rfl⟩ := hd
  intro p e s m args below meth c H locs ls X R hf hlc hl
  exact lv_if_gt X.1 X.2.1 hd ht (fun q => (kt (((i32_0 ha).2.2.2.1).mp q)) _ _ _ _ _ _ _ _ _ _ _ X R hf hlc hl) (fun q => (kf (fun z => q (((i32_0 ha).2.2.2.1).mpr z))) _ _ _ _ _ _ _ _ _ _ _ X R hf hlc hl)
theorem v_if_le {a : Int} {off : Int} (t : Nat) (ht : (pc : Int) + off = (t : Int)) (hd : At cc pc (.ifCond .le off) 3 n) (ha : -2147483648 ≤ a ∧ a < 2147483648) (kt : a ≤ 0 → V l G cc F P k S μ t L (st)) (kf : ¬ a ≤ 0 → V l G cc F P k S μ n L (st)) : V l G cc F P k S μ pc L (vi a :: st) := by
  obtain ⟨hd, rfl⟩ := hd
  intro p e s m args below meth c H locs ls X R hf hlc hl
  exact lv_if_le X.1 X.2.1 hd ht (fun q => (kt (((i32_0 ha).2.1).mp q)) _ _ _ _ _ _ _ _ _ _ _ X R hf hlc hl) (fun q => (kf (fun z => q (((i32_0 ha).2.1).mpr z))) _ _ _ _ _ _ _ _ _ _ _ X R hf hlc hl)
theorem v_if_eq {a : Int} {off : Int} (t : Nat) (ht : (pc : Int) + off = (t : Int)) (hd : At cc pc (.ifCond .eq off) 3 n) (ha : -2147483648 ≤ a ∧ a < 2147483648) (kt : a = 0 → V l G cc F P k S μ t L (st)) (kf : ¬ a = 0 → V l G cc F P k S μ n L (st)) : V l G cc F P k S μ pc L (vi a :: st) := by
  obtain ⟨hd, rfl⟩ := hd
  intro p e s m args below meth c H locs ls X R hf hlc hl
  exact lv_if_eq X.1 X.2.1 hd ht (fun q => (kt (((i32_0 ha).2.2.1).mp q)) _ _ _ _ _ _ _ _ _ _ _ X R hf hlc hl) (fun q => (kf (fun z => q (((i32_0 ha).2.2.1).mpr z))) _ _ _ _ _ _ _ _ _ _ _ X R hf hlc hl)
theorem v_if_ne {a : Int} {off : Int} (t : Nat) (ht : (pc : Int) + off = (t : Int)) (hd : At cc pc (.ifCond .ne off) 3 n) (ha : -2147483648 ≤ a ∧ a < 2147483648) (kt : ¬ a = 0 → V l G cc F P k S μ t L (st)) (kf : a = 0 → V l G cc F P k S μ n L (st)) : V l G cc F P k S μ pc L (vi a :: st) := by
  obtain ⟨hd, rfl⟩ := hd
  intro p e s m args below meth c H locs ls X R hf hlc hl
  exact lv_if_ne X.1 X.2.1 hd ht (fun q => (kt (fun z => q (((i32_0 ha).2.2.1).mpr z))) _ _ _ _ _ _ _ _ _ _ _ X R hf hlc hl) (fun q => (kf (((i32_0 ha).2.2.1).mp q)) _ _ _ _ _ _ _ _ _ _ _ X R hf hlc hl)
theorem v_ifnonnull {a : Nat} {off : Int} (t : Nat) (ht : (pc : Int) + off = (t : Int)) (hd : At cc pc (.ifnonnull off) 3 n) (h : V l G cc F P k S μ t L (st)) : V l G cc F P k S μ pc L (.ref a :: st) := by
  obtain ⟨hd, rfl⟩ := hd
  intro p e s m args below meth c H locs ls X R hf hlc hl
  exact lv_ifnonnull X.1 X.2.1 hd ht (h p e s m args below meth c H locs ls X R hf hlc hl)
theorem v_ifnonnullN {off : Int} (hd : At cc pc (.ifnonnull off) 3 n) (h : V l G cc F P k S μ n L (st)) : V l G cc F P k S μ pc L (.null :: st) := by
  obtain ⟨hd, rfl⟩ := hd
  intro p e s m args below meth c H locs ls X R hf hlc hl
  exact lv_ifnonnullN X.1 X.2.1 hd (h p e s m args below meth c H locs ls X R hf hlc hl)
theorem v_tableIn {a d lo hi off : Int} {offs : Array Int} {len : Nat} (t : Nat) (hd : At cc pc (.tableswitch d lo hi offs) len n) (ha : -2147483648 ≤ a ∧ a < 2147483648) (h1 : lo ≤ a) (h2 : a ≤ hi) (ho : offs[(a - lo).toNat]? = some off) (ht : (pc : Int) + off = (t : Int)) (h : V l G cc F P k S μ t L (st)) : V l G cc F P k S μ pc L (vi a :: st) := by
  obtain ⟨hd, rfl⟩ := hd
  intro p e s m args below meth c H locs ls X R hf hlc hl
  exact lv_tableIn (off := off) X.1 X.2.1 hd (by rw [i32_in ha]; omega) (by rw [i32_in ha]; omega) (by rw [i32_in ha]; exact ho) ht (h p e s m args below meth c H locs ls X R hf hlc hl)
theorem v_tableOut {a d lo hi : Int} {offs : Array Int} {len : Nat} (t : Nat) (hd : At cc pc (.tableswitch d lo hi offs) len n) (ha : -2147483648 ≤ a ∧ a < 2147483648) (h1 : a < lo ∨ hi < a) (ht : (pc : Int) + d = (t : Int)) (h : V l G cc F P k S μ t L (st)) : V l G cc F P k S μ pc L (vi a :: st) := by
  obtain ⟨hd, rfl⟩ := hd
  intro p e s m args below meth c H locs ls X R hf hlc hl
  exact lv_tableOut X.1 X.2.1 hd (by rw [i32_in ha]; exact h1) ht (h p e s m args below meth c H locs ls X R hf hlc hl)
theorem v_ireturn {a : Int} (hd : At cc pc .ireturn 1 n) (hr : F.2.2.1 = some .int) (hk : k.1 ≤ F.2.2.2.2.1 ∧ k.2 ≤ F.2.2.2.2.2) (h : P (some (vi a)) S μ) : V l G cc F P k S μ pc L [vi a] := by
  intro p e s m args below meth c H locs ls X R hf hlc hl
  refine W.widen hk.1 hk.2 ?_
  exact W.iret X.1 X.2.1 (X.2.2.2.1.trans hr) (fun t ht _ => ⟨_, S, μ, rfl, h, by rw [ht]; exact R, fun q hq => by rw [ht]; exact hf q hq⟩) hlc hd.1 (hlocks := X.2.2.2.2.2.1)
theorem v_zreturn {a : Int} (hd : At cc pc .ireturn 1 n) (hr : F.2.2.1 = some .boolean) (hk : k.1 ≤ F.2.2.2.2.1 ∧ k.2 ≤ F.2.2.2.2.2) (ha : a = 0 ∨ a = 1) (h : P (some (vi a)) S μ) : V l G cc F P k S μ pc L [vi a] := by
  intro p e s m args below meth c H locs ls X R hf hlc hl
  refine W.widen hk.1 hk.2 ?_
  exact W.zret X.1 X.2.1 (X.2.2.2.1.trans hr) (by rcases ha with rfl | rfl <;> rfl) (fun t ht _ => ⟨_, S, μ, rfl, h, by rw [ht]; exact R, fun q hq => by rw [ht]; exact hf q hq⟩) hlc hd.1 (hlocks := X.2.2.2.2.2.1)
theorem v_return (hd : At cc pc .return_ 1 n) (hr : F.2.2.1 = none) (hk : k.1 ≤ F.2.2.2.2.1 ∧ k.2 ≤ F.2.2.2.2.2) (h : P none S μ) : V l G cc F P k S μ pc L [] := by
  intro p e s m args below meth c H locs ls X R hf hlc hl
  refine W.widen hk.1 hk.2 ?_
  exact W.vret X.1 X.2.1 (X.2.2.2.1.trans hr) (fun t ht _ => ⟨_, S, μ, rfl, h, by rw [ht]; exact R, fun q hq => by rw [ht]; exact hf q hq⟩) hlc hd.1 (hlocks := X.2.2.2.2.2.1)
theorem v_areturn {a : Nat} {rt : FieldType} (hd : At cc pc .areturn 1 n) (hr : F.2.2.1 = some rt) (hrt : (∃ n, rt = .object n) ∨ ∃ t, rt = .array t) (hk : k.1 ≤ F.2.2.2.2.1 ∧ k.2 ≤ F.2.2.2.2.2) (h : P (some (.ref a)) S μ) : V l G cc F P k S μ pc L [.ref a] := by
  intro p e s m args below meth c H locs ls X R hf hlc hl
  refine W.widen hk.1 hk.2 ?_
  exact W.aret X.1 X.2.1 (X.2.2.2.1.trans hr) hrt (Or.inr ⟨a, rfl⟩) (fun t ht _ => ⟨_, S, μ, rfl, h, by rw [ht]; exact R, fun q hq => by rw [ht]; exact hf q hq⟩) hlc hd.1 (hlocks := X.2.2.2.2.2.1)
end R1
