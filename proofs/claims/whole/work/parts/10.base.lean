/-! answers, booleans, calls of methods that make nothing, shapes of the objects -/
noncomputable def b2i (p : Prop) : Int := @ite Int p (Classical.propDecidable p) 1 0
theorem b2i_t {p : Prop} (h : p) : b2i p = 1 := by unfold b2i; exact if_pos h
theorem b2i_f {p : Prop} (h : ¬ p) : b2i p = 0 := by unfold b2i; exact if_neg h
theorem b2i_01 {p : Prop} : b2i p = 0 ∨ b2i p = 1 := by
  by_cases h : p
  · exact Or.inr (b2i_t h)
  · exact Or.inl (b2i_f h)
theorem b2i_1 {p : Prop} : b2i p = 1 ↔ p := by
  constructor
  · intro h
    by_cases q : p
    · exact q
    · rw [b2i_f q] at h; exact absurd h (by decide)
  · exact b2i_t
theorem b2i_0 {p : Prop} : b2i p = 0 ↔ ¬ p := by
  constructor
  · intro h q
    rw [b2i_t q] at h; exact absurd h (by decide)
  · exact b2i_f
theorem b2i_r {p : Prop} : -2147483648 ≤ b2i p ∧ b2i p < 2147483648 := by rcases b2i_01 (p := p) with h | h <;> rw [h] <;> decide
theorem b2i_c {p q : Prop} (h : p ↔ q) : b2i p = b2i q := by rw [propext h]
/-- no cell is made: the answer is a number; nothing is answered -/
def Ri (S : Sh) (z : Int) (μ : Mu) : Pst := fun r S1 μ1 => r = some (vi z) ∧ S1 = S ∧ μ1 = μ
def Rv (S : Sh) (μ : Mu) : Pst := fun r S1 μ1 => r = none ∧ S1 = S ∧ μ1 = μ
/-- the answer is a number, such and such -/
def Re (S : Sh) (Q : Int → Mu → Prop) : Pst := fun r S1 μ1 => ∃ z, r = some (vi z) ∧ S1 = S ∧ Q z μ1
def Rw (S : Sh) (Q : Mu → Prop) : Pst := fun r S1 μ1 => r = none ∧ S1 = S ∧ Q μ1
theorem Ct.mono {l : Launch} {G : Glb} {cc : ByteArray} {F : Frm} {args : List Value} {S : Sh} {μ : Mu} {P P' : Pst} (h : Ct l G cc F args S μ P) (hP : ∀ r S μ, P r S μ → P' r S μ) : Ct l G cc F args S μ P' := by
  intro p e ha hc hk s m args' below hf happ hp hpre
  obtain ⟨kk, o, h1, h2, h3, ⟨r, S', μ', q1, q2, q3⟩, h5⟩ := h p e ha hc hk s m args' below hf happ hp hpre
  exact ⟨kk, o, h1, h2, h3, ⟨r, S', μ', q1, hP _ _ _ q2, q3⟩, h5⟩
section R5
variable {l : Launch} {G : Glb} {cc : ByteArray} {F : Frm} {P : Pst} {k : Nat × Nat} {S : Sh} {μ : Mu} {pc n : Nat} {L st : List Value}
theorem v_if_eq_b {p : Prop} {off : Int} (t : Nat) (ht : (pc : Int) + off = (t : Int)) (hd : At cc pc (.ifCond .eq off) 3 n) (kt : ¬ p → V l G cc F P k S μ t L st) (kf : p → V l G cc F P k S μ n L st) : V l G cc F P k S μ pc L (vi (b2i p) :: st) := v_if_eq t ht hd b2i_r (fun h => kt (b2i_0.mp h)) (fun h => kf (Classical.not_not.mp fun q => h (b2i_f q)))
theorem v_if_ne_b {p : Prop} {off : Int} (t : Nat) (ht : (pc : Int) + off = (t : Int)) (hd : At cc pc (.ifCond .ne off) 3 n) (kt : p → V l G cc F P k S μ t L st) (kf : ¬ p → V l G cc F P k S μ n L st) : V l G cc F P k S μ pc L (vi (b2i p) :: st) := v_if_ne t ht hd b2i_r (fun h => kt (Classical.not_not.mp fun q => h (b2i_f q))) (fun h => kf (b2i_0.mp h))
variable {y : MethodName} {cc' : ByteArray} {mL : Nat} {rt : Option FieldType} {d np : Nat} {As : List Value} {P' : Pst} {idx : Nat} {stk : List Value} {b ci : Nat} {sh : Shp} {r : vw_C}
theorem v_cV (hC : Ct l G cc' (y, mL, rt, d, 0, 0) (.ref b :: As) S μ P') (hd : At cc pc (.invokevirtual idx) 3 n) (hM : Mt y cc' mL rt np) (hI : Mv y) (hL : Ln F.1.cls idx y) (hS : S.2 b = some sh) (hk : sh.1 = ci) (hr : vwCl[ci]? = some r) (hrc : r.1 = y.cls) (hn : As.length = np) (hst : stk = As.reverse ++ .ref b :: st) (hfr : d + 1 ≤ F.2.2.2.1) (hmm : k.1 ≤ F.2.2.2.2.1 ∧ k.2 ≤ F.2.2.2.2.2) (hrs : (st.map fun v => v.category).sum ≤ 8)
    (K : ∀ r S' μ', P' r S' μ' → V l G cc F P k S' μ' n L (r.toList ++ st)) : V l G cc F P k S μ pc L stk := v_callV As hC hd hM hI hL hS hk hr hrc hn hst hfr hmm hrs K
theorem v_cVi {z : Int} {μ' : Mu} (hC : Ct l G cc' (y, mL, rt, d, 0, 0) (.ref b :: As) S μ (Ri S z μ')) (hd : At cc pc (.invokevirtual idx) 3 n) (hM : Mt y cc' mL rt np) (hI : Mv y) (hL : Ln F.1.cls idx y) (hS : S.2 b = some sh) (hk : sh.1 = ci) (hr : vwCl[ci]? = some r) (hrc : r.1 = y.cls) (hn : As.length = np) (hst : stk = As.reverse ++ .ref b :: st) (hfr : d + 1 ≤ F.2.2.2.1) (hmm : k.1 ≤ F.2.2.2.2.1 ∧ k.2 ≤ F.2.2.2.2.2) (hrs : (st.map fun v => v.category).sum ≤ 8)
    (K : V l G cc F P k S μ' n L (vi z :: st)) : V l G cc F P k S μ pc L stk := v_callV As hC hd hM hI hL hS hk hr hrc hn hst hfr hmm hrs (fun r S' μ1 h => by obtain ⟨rfl, rfl, rfl⟩ := h; exact K)
theorem v_cVv {μ' : Mu} (hC : Ct l G cc' (y, mL, rt, d, 0, 0) (.ref b :: As) S μ (Rv S μ')) (hd : At cc pc (.invokevirtual idx) 3 n) (hM : Mt y cc' mL rt np) (hI : Mv y) (hL : Ln F.1.cls idx y) (hS : S.2 b = some sh) (hk : sh.1 = ci) (hr : vwCl[ci]? = some r) (hrc : r.1 = y.cls) (hn : As.length = np) (hst : stk = As.reverse ++ .ref b :: st) (hfr : d + 1 ≤ F.2.2.2.1) (hmm : k.1 ≤ F.2.2.2.2.1 ∧ k.2 ≤ F.2.2.2.2.2) (hrs : (st.map fun v => v.category).sum ≤ 8)
    (K : V l G cc F P k S μ' n L st) : V l G cc F P k S μ pc L stk := v_callV As hC hd hM hI hL hS hk hr hrc hn hst hfr hmm hrs (fun r S' μ1 h => by obtain ⟨rfl, rfl, rfl⟩ := h; exact K)
theorem v_cVe {Q : Int → Mu → Prop} (hC : Ct l G cc' (y, mL, rt, d, 0, 0) (.ref b :: As) S μ (Re S Q)) (hd : At cc pc (.invokevirtual idx) 3 n) (hM : Mt y cc' mL rt np) (hI : Mv y) (hL : Ln F.1.cls idx y) (hS : S.2 b = some sh) (hk : sh.1 = ci) (hr : vwCl[ci]? = some r) (hrc : r.1 = y.cls) (hn : As.length = np) (hst : stk = As.reverse ++ .ref b :: st) (hfr : d + 1 ≤ F.2.2.2.1) (hmm : k.1 ≤ F.2.2.2.2.1 ∧ k.2 ≤ F.2.2.2.2.2) (hrs : (st.map fun v => v.category).sum ≤ 8)
    (K : ∀ z μ', Q z μ' → V l G cc F P k S μ' n L (vi z :: st)) : V l G cc F P k S μ pc L stk := v_callV As hC hd hM hI hL hS hk hr hrc hn hst hfr hmm hrs (fun r S' μ1 h => by obtain ⟨z, rfl, rfl, h⟩ := h; exact K z μ1 h)
theorem v_cVw {Q : Mu → Prop} (hC : Ct l G cc' (y, mL, rt, d, 0, 0) (.ref b :: As) S μ (Rw S Q)) (hd : At cc pc (.invokevirtual idx) 3 n) (hM : Mt y cc' mL rt np) (hI : Mv y) (hL : Ln F.1.cls idx y) (hS : S.2 b = some sh) (hk : sh.1 = ci) (hr : vwCl[ci]? = some r) (hrc : r.1 = y.cls) (hn : As.length = np) (hst : stk = As.reverse ++ .ref b :: st) (hfr : d + 1 ≤ F.2.2.2.1) (hmm : k.1 ≤ F.2.2.2.2.1 ∧ k.2 ≤ F.2.2.2.2.2) (hrs : (st.map fun v => v.category).sum ≤ 8)
    (K : ∀ μ', Q μ' → V l G cc F P k S μ' n L st) : V l G cc F P k S μ pc L stk := v_callV As hC hd hM hI hL hS hk hr hrc hn hst hfr hmm hrs (fun r S' μ1 h => by obtain ⟨rfl, rfl, h⟩ := h; exact K μ1 h)
theorem v_cSi {z : Int} {μ' : Mu} (hC : Ct l G cc' (y, mL, rt, d, 0, 0) As S μ (Ri S z μ')) (hd : At cc pc (.invokestatic idx) 3 n) (hM : Mt y cc' mL rt np) (hI : Cond.static y ∈ TBL) (hL : Ln F.1.cls idx y) (hn : As.length = np) (hst : stk = As.reverse ++ st) (hfr : d + 1 ≤ F.2.2.2.1) (hmm : k.1 ≤ F.2.2.2.2.1 ∧ k.2 ≤ F.2.2.2.2.2) (hrs : (st.map fun v => v.category).sum ≤ 8)
    (K : V l G cc F P k S μ' n L (vi z :: st)) : V l G cc F P k S μ pc L stk := v_callS As hC hd hM hI hL hn hst hfr hmm hrs (fun r S' μ1 h => by obtain ⟨rfl, rfl, rfl⟩ := h; exact K)
theorem v_cSe {Q : Int → Mu → Prop} (hC : Ct l G cc' (y, mL, rt, d, 0, 0) As S μ (Re S Q)) (hd : At cc pc (.invokestatic idx) 3 n) (hM : Mt y cc' mL rt np) (hI : Cond.static y ∈ TBL) (hL : Ln F.1.cls idx y) (hn : As.length = np) (hst : stk = As.reverse ++ st) (hfr : d + 1 ≤ F.2.2.2.1) (hmm : k.1 ≤ F.2.2.2.2.1 ∧ k.2 ≤ F.2.2.2.2.2) (hrs : (st.map fun v => v.category).sum ≤ 8)
    (K : ∀ z μ', Q z μ' → V l G cc F P k S μ' n L (vi z :: st)) : V l G cc F P k S μ pc L stk := v_callS As hC hd hM hI hL hn hst hfr hmm hrs (fun r S' μ1 h => by obtain ⟨z, rfl, rfl, h⟩ := h; exact K z μ1 h)
theorem v_aaldR {a kk N q : Nat} {rf : Nat → Option Nat} {z : Int} {ty : FieldType} (hk : kTy kk = some ty) (hr : ty.isReference = true) (hd : At cc pc .aaload 1 n) (hS : S.2 a = some (aR kk N rf)) (hz : 0 ≤ z ∧ z < (N : Int)) (hN : N ≤ 65536) (hq : rf z.toNat = some q) (h : V l G cc F P k S μ n L (.ref q :: st)) : V l G cc F P k S μ pc L (vi z :: .ref a :: st) := v_aald hk hr hd hS hz hN (by rw [hq]; exact h)
theorem v_aaldN {a kk N : Nat} {rf : Nat → Option Nat} {z : Int} {ty : FieldType} (hk : kTy kk = some ty) (hr : ty.isReference = true) (hd : At cc pc .aaload 1 n) (hS : S.2 a = some (aR kk N rf)) (hz : 0 ≤ z ∧ z < (N : Int)) (hN : N ≤ 65536) (hq : rf z.toNat = none) (h : V l G cc F P k S μ n L (.null :: st)) : V l G cc F P k S μ pc L (vi z :: .ref a :: st) := v_aald hk hr hd hS hz hN (by rw [hq]; exact h)
theorem v_gi {a idx ci f : Nat} {sh : Shp} (z : Int) (hz : (f : Int) = z) (hd : At cc pc (.getfield idx) 3 n) (hF : Fl F.1.cls idx ci f) (hS : S.2 a = some sh) (hk : sh.1 = ci) (hi : sh.2.2 f = none) (h : V l G cc F P k S μ n L (vi (μ a z) :: st)) : V l G cc F P k S μ pc L (.ref a :: st) := by
  subst hz
  exact v_geti hd hF hS hk hi h
theorem v_pi {a idx ci f : Nat} {sh : Shp} {x : Int} (z : Int) (hz : (f : Int) = z) (hd : At cc pc (.putfield idx) 3 n) (hF : Fl F.1.cls idx ci f) (hN : Nf ci f) (hO : Ok ci f (vi x)) (hS : S.2 a = some sh) (hk : sh.1 = ci) (hi : sh.2.2 f = none) (h : V l G cc F P k S (upd2 μ a z x) n L st) : V l G cc F P k S μ pc L (vi x :: .ref a :: st) := by
  subst hz
  exact v_put hd hF hN hO hS hk hi h
/-- the top of the stack is such a number -/
theorem v_top {z w : Int} (e : z = w) (h : V l G cc F P k S μ pc L (vi w :: st)) : V l G cc F P k S μ pc L (vi z :: st) := by rw [e]; exact h
theorem v_mu {μ' : Mu} (e : μ = μ') (h : V l G cc F P k S μ' pc L st) : V l G cc F P k S μ pc L st := by rw [e]; exact h
end R5
theorem upd2_ap (μ : Mu) (a : Nat) (z x : Int) (q : Nat) (i : Int) : upd2 μ a z x q i = if q = a ∧ i = z then x else μ q i := rfl
theorem row_ap (μ : Mu) (a : Nat) (g : Int → Int) (q : Nat) : row μ a g q = if q = a then g else μ q := rfl
theorem row_same {μ : Mu} {a : Nat} {g : Int → Int} : row μ a g a = g := by simp [row]
theorem row_ne {μ : Mu} {a q : Nat} {g : Int → Int} (h : q ≠ a) : row μ a g q = μ q := by simp [row, h]
def iup (g : Int → Int) (z x : Int) : Int → Int := fun i => if i = z then x else g i
theorem upd2_iup {μ : Mu} {a : Nat} {z x : Int} : upd2 μ a z x = row μ a (iup (μ a) z x) := by
  funext q i
  by_cases h : q = a
  · subst h; simp [upd2, row, iup]
  · simp [upd2, row, h]
theorem row_row {μ : Mu} {a : Nat} {g h : Int → Int} : row (row μ a g) a h = row μ a h := by
  funext q
  by_cases e : q = a <;> simp [row, e]
theorem row_id {μ : Mu} {a : Nat} : row μ a (μ a) = μ := by
  funext q
  by_cases e : q = a
  · subst e; simp [row]
  · simp [row, e]
theorem row_comm {μ : Mu} {a b : Nat} {g h : Int → Int} (e : a ≠ b) : row (row μ a g) b h = row (row μ b h) a g := by
  funext q
  by_cases e1 : q = a
  · subst e1; simp [row, e]
  · by_cases e2 : q = b
    · subst e2; simp [row, e1]
    · simp [row, e1, e2]
theorem iup_same {g : Int → Int} {z x : Int} : iup g z x z = x := by simp [iup]
theorem iup_ne {g : Int → Int} {z x i : Int} (h : i ≠ z) : iup g z x i = g i := by simp [iup, h]
theorem iup_iup {g : Int → Int} {z x y : Int} : iup (iup g z x) z y = iup g z y := by funext i; by_cases h : i = z <;> simp [iup, h]
